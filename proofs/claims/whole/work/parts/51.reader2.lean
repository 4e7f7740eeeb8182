/-! The text's reader: batches, items, the whole text -/
theorem kI_nat (l : Int64) : kI l < 0 ∨ ∃ kk, kk ≤ 6 ∧ kI l = nI kk := by
  unfold kI
  split
  · exact .inr ⟨0, by decide, rfl⟩
  split
  · exact .inr ⟨1, by decide, rfl⟩
  split
  · exact .inr ⟨2, by decide, rfl⟩
  split
  · exact .inr ⟨3, by decide, rfl⟩
  split
  · exact .inr ⟨4, by decide, rfl⟩
  split
  · exact .inr ⟨5, by decide, rfl⟩
  split
  · exact .inr ⟨6, by decide, rfl⟩
  · exact .inl (by decide)
theorem plI_cases (l : Int64) : plI l = 0 ∨ plI l = 1 ∨ plI l = 2 ∨ plI l = 3 := by
  unfold plI
  split
  · exact .inr (.inl rfl)
  split
  · exact .inr (.inr (.inl rfl))
  split
  · exact .inr (.inr (.inr rfl))
  · exact .inl rfl
theorem ba4_W {c : Nat} {k v p : Int32} {R : Mem} (h : ¬ R 62 10 = 0) : WRf R (ba4 c k v p R) := by
  unfold ba4
  rw [if_neg h]
  exact ⟨h, rfl⟩
theorem ba3_W {t c : Nat} {R : Mem} (h : ¬ R 62 10 = 0) : WRf R (ba3 t c R) := by
  unfold ba3
  split
  · exact ⟨h, rfl⟩
  · exact need_W h
theorem pe_W {t : Nat} {b : Bool} {h : Int} {R : Mem} (hw : ¬ R 62 10 = 0) : WRf R (peM t b h R) := by
  unfold peM
  split
  · exact WR_tr (need_W hw) (fun z => by rw [num_W z]; exact ⟨z, rfl⟩)
  · exact ⟨hw, rfl⟩
def NBm (M : Mem) (c : Nat) (k v q : Int32) : Mem := ms (ms (ms (ms (ms (ms M 29 c k) 30 c 9) 31 c v) 32 c 0) 33 c q) 28 5 (nI (c + 1))
theorem setG_snoc {f : Nat → Int32} {a : Int32} : ∀ (n i : Nat) (s : Int32), ¬ f (i + n) = a → setG f a (n + 1) i s = setG f a n i s := by
  intro n
  induction n with
  | zero =>
    intro i s h
    rw [Nat.add_zero] at h
    simp only [setG]
    rw [if_neg h]
  | succ n ih =>
    intro i s h
    show setG f a (n + 1) (i + 1) _ = setG f a n (i + 1) _
    exact ih (i + 1) _ (by rw [show i + 1 + n = i + (n + 1) by omega]; exact h)
theorem KI_newB {c kk : Nat} {v q : Int32} {R : Mem} (hc : c < 10) (hkk : kk ≤ 6) (hK : KI c R) : KI (c + 1) (mNewM c (nI kk) v q R) := by
  unfold mNewM
  refine ⟨fun x hx => ?_, fun k hk => ?_⟩
  · by_cases z : x = c
    · subst z
      exact ⟨kk, hkk, by simp (disch := omega) only [ms_j, ms_s]⟩
    · simp (disch := omega) only [ms_j]
      exact hK.1 x (by omega)
  · simp (disch := omega) only [ms_j]
    obtain ⟨o, ho, h2⟩ := hK.2 k hk
    exact ⟨o, ho, fun b hb => by have := h2 b hb; omega⟩
theorem new_62 {c : Nat} {k v q : Int32} {R : Mem} {a : Nat} (h : a ≠ 63) : mNewM c k v q R a = R a := by
  unfold mNewM
  simp (disch := assumption) only [ms_k]
theorem room_new {c cc q m A B : Nat} (hc : c < 10) {M Mx R : Mem} (hV : ST 27 c cc q m A B M R) {k v pl : Int32} (hE : Mx 33 = NBm M c k v 0 33) (hpl : ¬ pl = 0) : bcF (setG (Mx (27+6)) pl (c + 1) 0 0) = onesF (setG (col R 4) pl c 0 0) := by
  have e1 : ∀ j, j < c → Mx 33 j = M 33 j := fun j hj => by rw [hE]; unfold NBm; rw [ms_k (by decide), ms_j (by omega), ms_k (by decide), ms_k (by decide), ms_k (by decide), ms_k (by decide)]
  have e2 : Mx 33 c = 0 := by rw [hE]; unfold NBm; rw [ms_k (by decide), ms_s]
  show bcF (setG (Mx 33) pl (c + 1) 0 0) = _
  rw [setG_snoc c 0 0 (by rw [show 0 + c = c by omega, e2]; exact fun z => hpl z.symm), setG_congr (g := M 33) c 0 0 (fun j _ h => e1 j (by omega))]
  exact room_eq (by omega) hV pl
theorem lay_new {M Mx : Mem} {c : Nat} {k v pl : Int32} (hE : ∀ a, 27 ≤ a → a < 40 → Mx a = NBm M c k v 0 a) (hpl : pl = 1 ∨ pl = 2 ∨ pl = 3) : ∀ a, 27 ≤ a → a < 40 → layM 27 c pl Mx a = NBm M c k v pl a := by
  intro a h1 h2
  have e33 : ms (NBm M c k v 0) 33 c pl a = NBm M c k v pl a := by
    funext j
    unfold NBm
    by_cases q : a = 33
    · subst q
      by_cases z : j = c
      · subst z; simp (disch := first | assumption | decide) only [ms_j, ms_k, ms_s]
      · simp (disch := first | assumption | decide) only [ms_j, ms_k, ms_s]
    · by_cases y : a = 28
      · subst y
        by_cases z : j = 5
        · subst z; simp (disch := first | assumption | decide) only [ms_j, ms_k, ms_s]
        · simp (disch := first | assumption | decide) only [ms_j, ms_k, ms_s]
      · simp (disch := first | assumption | decide) only [ms_j, ms_k, ms_s]
  have congr : ∀ (X Y : Mem) (k' j' : Nat) (w : Int32), X a = Y a → ms X k' j' w a = ms Y k' j' w a := fun X Y k' j' w h => by
    funext b
    unfold ms
    rw [h]
  rcases hpl with rfl | rfl | rfl
  · rw [lay_fire (by decide) (by decide)]
    exact (congr Mx (NBm M c k v 0) 33 c 1 (hE a h1 h2)).trans e33
  · rw [lay_fire (by decide) (by decide)]
    exact (congr Mx (NBm M c k v 0) 33 c 2 (hE a h1 h2)).trans e33
  · rw [lay_heap]
    have e := (congr Mx (NBm M c k v 0) 33 c 3 (hE a h1 h2)).trans e33
    refine (congr (ms Mx 33 c 3) (NBm M c k v 3) 32 c (nI 0) e).trans ?_
    by_cases q : a = 32
    · subst q
      funext j
      unfold NBm
      by_cases z : j = c
      · subst z; simp (disch := first | assumption | decide) only [ms_j, ms_k, ms_s]; rfl
      · simp (disch := first | assumption | decide) only [ms_j, ms_k, ms_s]
    · rw [ms_k q]
theorem lay_k {c a : Nat} {pl : Int32} {M : Mem} (h : a < 27 ∨ 40 ≤ a) : layM 27 c pl M a = M a := by
  unfold layM
  split
  · rw [ms_k (by omega), ms_k (by omega)]
  · split
    · rw [ms_k (by omega), ms_k (by omega)]
    · rw [ms_k (by omega)]
theorem l_X7_readBatch_82 {t p : Nat} (ht : t ≤ 120) {c : Nat} (hc : c < 10) {cc : Nat} (hcc : cc ≤ 12) {q : Nat} (hq : q ≤ 99) {m A B : Nat} {M R Mx R2 : Mem} (hV : ST 27 c cc q m A B M R) (hK : KI c R) {kk v : Nat} (hkk : kk ≤ 6) (hS : SY t p Mx R2) (hE : ∀ a, 27 ≤ a → a < 40 → Mx a = NBm M c (nI kk) (nI v) 0 a) (h63 : R2 63 = R 63) (hP : KP Mx M) : V m_X7_readBatch 82 [(0, .ref 56), (1, .int (nI kk)), (2, .int (nI c))] [] Mx (IQ t m A B (ba4 c (nI kk) (nI v) (plI (wdF t R2)) (ba3 t c R2)) M) := by
  have h28 : Mx 28 5 = nI (c + 1) := by rw [hE 28 (by decide) (by decide)]; unfold NBm; rw [ms_s]
  have hV2 : ST 27 c cc q m A B M R2 := ST_R h63 hV
  refine V.aload_n dX7_readBatch_82 rfl rfl rfl ?_
  refine V.callv_i (M1 := Mx) (v := plI (wdF t R2)) (md' := m_X7_placeTold) (As := []) (rest := []) dX7_readBatch_83 ml_X7_87 mo_X7_placeTold ⟨Nat.le_of_ble_eq_true rfl, Nat.le_of_ble_eq_true rfl⟩ rfl ⟨_, _, rfl⟩ (Nat.le_of_ble_eq_true rfl) rfl rfl (Nat.le_of_ble_eq_true rfl) (v_X7_placeTold ht hS) rfl ?_
  refine V.ist_n dX7_readBatch_86 rfl (by decide) (L' := [(0, .ref 56), (1, .int (nI kk)), (2, .int (nI c)), (3, .int (plI (wdF t R2)))]) rfl rfl ?_
  refine V.iload_n dX7_readBatch_87 rfl rfl rfl ?_
  refine V.if_ne (tgt := 93) dX7_readBatch_88 rfl rfl (fun c88 => ?_) (fun c88 => ?_)
  · skip
    refine V.aload_n dX7_readBatch_93 rfl rfl rfl ?_
    refine V.getr dX7_readBatch_94 fg_X7_15 rfl rfl rfl ?_
    refine V.getr dX7_readBatch_97 fg_X7_64 rfl rfl rfl ?_
    refine V.iload_n dX7_readBatch_100 rfl rfl rfl ?_
    refine V.callv_i (M1 := Mx) (v := if roB c (plI (wdF t R2)) R2 = true then 1 else 0) (md' := m_X4_hasRoom) (As := [.int (plI (wdF t R2))]) (rest := []) dX7_readBatch_101 ml_X7_90 mo_X4_hasRoom ⟨Nat.le_of_ble_eq_true rfl, Nat.le_of_ble_eq_true rfl⟩ rfl ⟨_, _, rfl⟩ (Nat.le_of_ble_eq_true rfl) rfl rfl (Nat.le_of_ble_eq_true rfl) (by have hz := v_X4_hasRoom isE27 (c := c + 1) (by omega) (plI (wdF t R2)) Mx h28; rw [room_new hc hV2 (hE 33 (by decide) (by decide)) c88] at hz; rw [show (if (¬ plI (wdF t R2) = 1 ∧ ¬ plI (wdF t R2) = 2) ∨ onesF (setG (col R2 4) (plI (wdF t R2)) c 0 0) < (if plI (wdF t R2) = 1 then 2 else 4) then (1 : Int32) else 0) = if roB c (plI (wdF t R2)) R2 = true then 1 else 0 from ifC (by unfold roB; rw [decide_eq_true_iff])] at hz; exact hz) rfl ?_
    refine V.ifb_ne (tgt := 109) dX7_readBatch_104 rfl rfl (fun c104 => ?_) (fun c104 => ?_)
    · skip
      have hpl := (plI_cases (wdF t R2)).resolve_left c88
      obtain ⟨p3, hS3⟩ := SY_tok ht (SY_cells (M' := layM 27 c (plI (wdF t R2)) Mx) (R' := R2) (lay_k (by decide)) (lay_k (by decide)) (fun _ _ => rfl) rfl hS)
      have hSL := SY_cells (M' := layM 27 c (plI (wdF t R2)) Mx) (R' := R2) (lay_k (by decide)) (lay_k (by decide)) (fun _ _ => rfl) rfl hS
      have ha : ba4 c (nI kk) (nI v) (plI (wdF t R2)) (ba3 t c R2) = mNewM c (nI kk) (nI v) (plI (wdF t R2)) (needM t true R2) := by rw [ba3, if_neg c88, c104, ba4, if_pos hS3.2.2.2.2.2.2.2.2.2.2]
      refine V.aload_n dX7_readBatch_109 rfl rfl rfl ?_
      refine V.getr dX7_readBatch_110 fg_X7_15 rfl rfl rfl ?_
      refine V.getr dX7_readBatch_113 fg_X7_64 rfl rfl rfl ?_
      refine V.iload_n dX7_readBatch_116 rfl rfl rfl ?_
      refine V.iload_n dX7_readBatch_117 rfl rfl rfl ?_
      refine V.callv_i (M1 := layM 27 c (plI (wdF t R2)) Mx) (v := layV 27 c (plI (wdF t R2)) Mx) (md' := m_X4_lay) (As := [.int (nI c), .int (plI (wdF t R2))]) (rest := []) dX7_readBatch_118 ml_X7_93 mo_X4_lay ⟨Nat.le_of_ble_eq_true rfl, Nat.le_of_ble_eq_true rfl⟩ rfl ⟨_, _, rfl⟩ (Nat.le_of_ble_eq_true rfl) rfl rfl (Nat.le_of_ble_eq_true rfl) (v_X4_lay isE27 (b := c) (by omega) (plI (wdF t R2)) Mx) rfl ?_
      refine V.pop dX7_readBatch_121 rfl rfl ?_
      refine V.aload_n dX7_readBatch_122 rfl rfl rfl ?_
      refine V.getr dX7_readBatch_123 fg_X7_9 rfl rfl rfl ?_
      refine V.callv_v (M1 := stC t (layM 27 c (plI (wdF t R2)) Mx)) (md' := m_X6_step) (As := []) (rest := []) dX7_readBatch_126 ml_X7_32 mo_X6_step ⟨Nat.le_of_ble_eq_true rfl, Nat.le_of_ble_eq_true rfl⟩ rfl ⟨_, _, rfl⟩ (Nat.le_of_ble_eq_true rfl) rfl rfl (Nat.le_of_ble_eq_true rfl) (v_stepS ht hSL) rfl ?_
      refine V.iconst (v := 1) dX7_readBatch_129 rfl rfl ?_
      exact V.ret dX7_readBatch_130 rfl rfl (⟨fun k z1 z2 => (stC_k z2).trans ((lay_k (by omega)).trans (hP k z1 z2)), .inl ⟨rfl, p3, c + 1, cc, q, by rw [ha]; exact SY_cells rfl rfl (fun j _ => by rw [new_62 (by decide)]) (new_62 (by decide)) hS3, by omega, hcc, hq, by rw [ha]; exact ST_M (fun a h1 h2 => (stC_k (by omega)).trans (lay_new hE hpl a h1 h2)) (ST_newB hc (nI kk) (nI v) (plI (wdF t R2)) (ST_R (need_k (by decide)) hV2)), by rw [ha]; exact KI_newB hc hkk (KI_R ((need_k (by decide)).trans h63) hK)⟩⟩)
    · skip
      refine V.iconst (v := 0) dX7_readBatch_107 rfl rfl ?_
      exact V.ret dX7_readBatch_108 rfl rfl (⟨hP, .inr ⟨rfl, FL_of (SY_from hS) (by rw [ba3, if_neg c88, Bool.eq_false_iff.mpr c104]; exact WR_tr need_F ba4_W)⟩⟩)
  · skip
    have ha : ba4 c (nI kk) (nI v) (plI (wdF t R2)) (ba3 t c R2) = mNewM c (nI kk) (nI v) 0 R2 := by rw [ba3, if_pos c88, ba4, if_pos hS.2.2.2.2.2.2.2.2.2.2, c88]
    refine V.iconst (v := 1) dX7_readBatch_91 rfl rfl ?_
    exact V.ret dX7_readBatch_92 rfl rfl (⟨hP, .inl ⟨rfl, p, c + 1, cc, q, by rw [ha]; exact SY_cells rfl rfl (fun j _ => by rw [new_62 (by decide)]) (new_62 (by decide)) hS, by omega, hcc, hq, by rw [ha]; exact ST_M (fun a h1 h2 => hE a h1 h2) (ST_newB hc (nI kk) (nI v) 0 hV2), by rw [ha]; exact KI_newB hc hkk (KI_R h63 hK)⟩⟩)
theorem nA_k {c a : Nat} {k : Int32} {M : Mem} (h : a < 27 ∨ 40 ≤ a) : nAddM 27 c k M a = M a := by
  unfold nAddM
  rw [ms_k (by omega), ms_k (by omega), ms_k (by omega), ms_k (by omega), ms_k (by omega), ms_k (by omega)]
theorem nA_plain {t c a : Nat} {k : Int32} {M : Mem} (h1 : 27 ≤ a) (h2 : a < 40) : stC t (nAddM 27 c k M) a = NBm M c k (nI 0) 0 a := stC_k (by omega)
theorem nA_roast {t c a : Nat} {k v : Int32} {M : Mem} (h1 : 27 ≤ a) (h2 : a < 40) : ms (stC t (stC t (stC t (nAddM 27 c k M)))) 31 c v a = NBm M c k v 0 a := by
  have e : ms (stC t (stC t (stC t (nAddM 27 c k M)))) 31 c v a = ms (nAddM 27 c k M) 31 c v a := by
    funext b
    unfold ms
    rw [stC_k (show a ≠ 54 by omega), stC_k (show a ≠ 54 by omega), stC_k (show a ≠ 54 by omega)]
  rw [e]
  funext j
  unfold nAddM NBm
  show ms (ms (ms (ms (ms (ms (ms M 29 c k) 30 c 9) 31 c 0) 32 c 0) 33 c 0) 28 5 (nI (c + 1))) 31 c v a j = _
  by_cases q : a = 31
  · subst q
    by_cases z : j = c
    · subst z; simp (disch := first | assumption | decide) only [ms_j, ms_k, ms_s]
    · simp (disch := first | assumption | decide) only [ms_j, ms_k, ms_s]
  · by_cases y : a = 28
    · subst y
      by_cases z : j = 5
      · subst z; simp (disch := first | assumption | decide) only [ms_j, ms_k, ms_s]
      · simp (disch := first | assumption | decide) only [ms_j, ms_k, ms_s]
    · by_cases y : a = 33
      · subst y
        by_cases z : j = c
        · subst z; simp (disch := first | assumption | decide) only [ms_j, ms_k, ms_s]
        · simp (disch := first | assumption | decide) only [ms_j, ms_k, ms_s]
      · by_cases y : a = 32
        · subst y
          by_cases z : j = c
          · subst z; simp (disch := first | assumption | decide) only [ms_j, ms_k, ms_s]
          · simp (disch := first | assumption | decide) only [ms_j, ms_k, ms_s]
        · simp (disch := first | assumption | decide) only [ms_j, ms_k, ms_s]
theorem v_X7_readBatch_n {t p : Nat} (ht : t ≤ 120) {m A B : Nat} {M R : Mem} (hS : SY t p M R) (hneg : kI (wdF t R) < 0) : V m_X7_readBatch 0 [(0, .ref 56)] [] M (IQ t m A B (needM t false R) M) := by
  refine V.aload_n dX7_readBatch_0 rfl rfl rfl ?_
  refine V.callv_i (M1 := M) (v := kI (wdF t R)) (md' := m_X7_kindTold) (As := []) (rest := []) dX7_readBatch_1 ml_X7_60 mo_X7_kindTold ⟨Nat.le_of_ble_eq_true rfl, Nat.le_of_ble_eq_true rfl⟩ rfl ⟨_, _, rfl⟩ (Nat.le_of_ble_eq_true rfl) rfl rfl (Nat.le_of_ble_eq_true rfl) (v_X7_kindTold ht hS) rfl ?_
  refine V.ist_n dX7_readBatch_4 rfl (by decide) (L' := [(0, .ref 56), (1, .int (kI (wdF t R)))]) rfl rfl ?_
  refine V.iload_n dX7_readBatch_5 rfl rfl rfl ?_
  refine V.if_lt (tgt := 22) dX7_readBatch_6 rfl rfl (fun c6 => ?_) (fun c6 => absurd c6 (fun z => z hneg))
  refine V.iconst (v := 0) dX7_readBatch_22 rfl rfl ?_
  exact V.ret dX7_readBatch_23 rfl rfl (⟨KP_rf M, .inr ⟨rfl, FL_of (SY_from hS) need_F⟩⟩)
theorem v_X7_readBatch {t p : Nat} (ht : t ≤ 120) {c : Nat} (hc : c ≤ 10) {cc : Nat} (hcc : cc ≤ 12) {q : Nat} (hq : q ≤ 99) {m A B : Nat} {M R : Mem} (hS : SY t p M R) (hV : ST 27 c cc q m A B M R) (hK : KI c R) {kk : Nat} (hkk : kk ≤ 6) (ek : kI (wdF t R) = nI kk) : V m_X7_readBatch 0 [(0, .ref 56)] [] M (IQ t m A B (baM t c (nI kk) R) M) := by
  have h28 := ST_c27 hV
  refine V.aload_n dX7_readBatch_0 rfl rfl rfl ?_
  refine V.callv_i (M1 := M) (v := nI kk) (md' := m_X7_kindTold) (As := []) (rest := []) dX7_readBatch_1 ml_X7_60 mo_X7_kindTold ⟨Nat.le_of_ble_eq_true rfl, Nat.le_of_ble_eq_true rfl⟩ rfl ⟨_, _, rfl⟩ (Nat.le_of_ble_eq_true rfl) rfl rfl (Nat.le_of_ble_eq_true rfl) (by rw [← ek]; exact v_X7_kindTold ht hS) rfl ?_
  refine V.ist_n dX7_readBatch_4 rfl (by decide) (L' := [(0, .ref 56), (1, .int (nI kk))]) rfl rfl ?_
  refine V.iload_n dX7_readBatch_5 rfl rfl rfl ?_
  refine V.if_lt (tgt := 22) dX7_readBatch_6 rfl rfl (fun c6 => absurd ((nI_ltI (a := kk) (b := 0) (by omega) (by omega)).mp c6) (by omega)) (fun c6 => ?_)
  have c6 : ¬ kk < 0 := fun zq => c6 ((nI_ltI (a := kk) (b := 0) (by omega) (by omega)).mpr zq)
  refine V.aload_n dX7_readBatch_9 rfl rfl rfl ?_
  refine V.getr dX7_readBatch_10 fg_X7_15 rfl rfl rfl ?_
  refine V.getr dX7_readBatch_13 fg_X7_64 rfl rfl rfl ?_
  refine V.callv_i (M1 := M) (v := if 10 ≤ c then 1 else 0) (md' := m_X4_isFull) (As := []) (rest := []) dX7_readBatch_16 ml_X7_70 mo_X4_isFull ⟨Nat.le_of_ble_eq_true rfl, Nat.le_of_ble_eq_true rfl⟩ rfl ⟨_, _, rfl⟩ (Nat.le_of_ble_eq_true rfl) rfl rfl (Nat.le_of_ble_eq_true rfl) (v_X4_isFull isE27 hc M h28) rfl ?_
  refine V.ifb_eq (tgt := 24) dX7_readBatch_19 rfl rfl (fun c19 => ?_) (fun c19 => ?_)
  · skip
    refine V.aload_n dX7_readBatch_24 rfl rfl rfl ?_
    refine V.getr dX7_readBatch_25 fg_X7_15 rfl rfl rfl ?_
    refine V.getr dX7_readBatch_28 fg_X7_64 rfl rfl rfl ?_
    refine V.iload_n dX7_readBatch_31 rfl rfl rfl ?_
    refine V.callv_i (M1 := nAddM 27 c (nI kk) M) (v := nI c) (md' := m_X4_add) (As := [.int (nI kk)]) (rest := []) dX7_readBatch_32 ml_X7_75 mo_X4_add ⟨Nat.le_of_ble_eq_true rfl, Nat.le_of_ble_eq_true rfl⟩ rfl ⟨_, _, rfl⟩ (Nat.le_of_ble_eq_true rfl) rfl rfl (Nat.le_of_ble_eq_true rfl) (v_X4_add isE27 (c := c) (by omega) (nI kk) M h28) rfl ?_
    refine V.ist_n dX7_readBatch_35 rfl (by decide) (L' := [(0, .ref 56), (1, .int (nI kk)), (2, .int (nI c))]) rfl rfl ?_
    refine V.aload_n dX7_readBatch_36 rfl rfl rfl ?_
    refine V.getr dX7_readBatch_37 fg_X7_9 rfl rfl rfl ?_
    refine V.callv_v (M1 := stC t (nAddM 27 c (nI kk) M)) (md' := m_X6_step) (As := []) (rest := []) dX7_readBatch_40 ml_X7_32 mo_X6_step ⟨Nat.le_of_ble_eq_true rfl, Nat.le_of_ble_eq_true rfl⟩ rfl ⟨_, _, rfl⟩ (Nat.le_of_ble_eq_true rfl) rfl rfl (Nat.le_of_ble_eq_true rfl) (v_stepS ht (SY_cells (M' := nAddM 27 c (nI kk) M) (R' := R) (nA_k (by decide)) (nA_k (by decide)) (fun _ _ => rfl) rfl hS)) rfl ?_
    have hSA : SY t p (nAddM 27 c (nI kk) M) R := SY_cells (nA_k (by decide)) (nA_k (by decide)) (fun _ _ => rfl) rfl hS
    obtain ⟨p1, hS1⟩ := SY_tok ht hSA
    refine V.aload_n dX7_readBatch_43 rfl rfl rfl ?_
    refine V.getr dX7_readBatch_44 fg_X7_9 rfl rfl rfl ?_
    refine V.ldcS (i := 4) dX7_readBatch_47 (by decide) rfl rfl rfl ?_
    refine V.callv_i (M1 := stC t (nAddM 27 c (nI kk) M)) (v := if wdF t (needM t true R) = 19367540 then 1 else 0) (md' := m_X6_isWord) (As := [.ref (100 + 4)]) (rest := []) dX7_readBatch_49 ml_X7_40 mo_X6_isWord ⟨Nat.le_of_ble_eq_true rfl, Nat.le_of_ble_eq_true rfl⟩ rfl ⟨_, _, rfl⟩ (Nat.le_of_ble_eq_true rfl) rfl rfl (Nat.le_of_ble_eq_true rfl) (v_isW ht (by decide) hS1 cd_4) rfl ?_
    refine V.ifb_eq (tgt := 82) dX7_readBatch_52 rfl rfl (fun c52 => ?_) (fun c52 => ?_)
    · skip
      have hb1 : baM t c (nI kk) R = ba4 c (nI kk) (nI 0) (plI (wdF t (needM t true R))) (ba3 t c (needM t true R)) := by rw [baM, show ba1 t c R = needM t true R from by rw [ba1, decide_eq_true (by omega)], show baB t (needM t true R) = false from decide_eq_false c52]; rfl
      rw [hb1]
      exact l_X7_readBatch_82 (p := p1) ht (by omega) hcc hq hV hK hkk hS1 (fun a h1 h2 => nA_plain h1 h2) (need_k (by decide)) (fun k z1 z2 => (stC_k z2).trans (nA_k (by omega)))
    · skip
      refine V.aload_n dX7_readBatch_55 rfl rfl rfl ?_
      refine V.sipush (v := 999) dX7_readBatch_56 (by decide) rfl ?_
      rcases rn_cases ht (h := 999) (by decide) (hi := 999) rfl hS1 with ⟨hb, v, p2, hv, e5, hS2, e9⟩ | ⟨hb, hF, eF⟩
      · skip
        refine V.callv_i (M1 := stC t (stC t (stC t (nAddM 27 c (nI kk) M)))) (v := nI v) (md' := m_X7_readNumberBehind) (As := [.int 999]) (rest := []) dX7_readBatch_59 ml_X7_81 mo_X7_readNumberBehind ⟨Nat.le_of_ble_eq_true rfl, Nat.le_of_ble_eq_true rfl⟩ rfl ⟨_, _, rfl⟩ (Nat.le_of_ble_eq_true rfl) rfl rfl (Nat.le_of_ble_eq_true rfl) (v_X7_rn_t ht hS1 (most := nI 999) hb e5) rfl ?_
        refine V.ist_n dX7_readBatch_62 rfl (by decide) (L' := [(0, .ref 56), (1, .int (nI kk)), (2, .int (nI c)), (3, .int (nI v))]) rfl rfl ?_
        refine V.iload_n dX7_readBatch_63 rfl rfl rfl ?_
        refine V.if_ge (tgt := 69) dX7_readBatch_64 rfl rfl (fun c64 => ?_) (fun c64 => absurd ((nI_leI (a := 0) (b := v) (by omega) (by omega)).mpr (by omega)) c64)
        have c64 : 0 ≤ v := (nI_leI (a := 0) (b := v) (by omega) (by omega)).mp c64
        refine V.aload_n dX7_readBatch_69 rfl rfl rfl ?_
        refine V.getr dX7_readBatch_70 fg_X7_15 rfl rfl rfl ?_
        refine V.getr dX7_readBatch_73 fg_X7_64 rfl rfl rfl ?_
        refine V.getr dX7_readBatch_76 fg_X7_84 rfl rfl rfl ?_
        refine V.iload_n dX7_readBatch_79 rfl rfl rfl ?_
        refine V.iload_n dX7_readBatch_80 rfl rfl rfl ?_
        refine V.iastN (j := c) dX7_readBatch_81 rfl (by omega) (by decide) rfl (M' := (ms (stC t (stC t (stC t (nAddM 27 c (nI kk) M)))) 31 c (nI v))) rfl rfl ?_
        refine V.loc (L' := [(0, .ref 56), (1, .int (nI kk)), (2, .int (nI c))]) (fun zq zh => List.mem_append_left [(3, Value.int (nI v))] zh) ?_
        have hb1 : baM t c (nI kk) R = ba4 c (nI kk) (nI v) (plI (wdF t (numM t 999 (needM t true (needM t true R))))) (ba3 t c (numM t 999 (needM t true (needM t true R)))) := by rw [baM, show ba1 t c R = needM t true R from by rw [ba1, decide_eq_true (by omega)], show baB t (needM t true R) = true from decide_eq_true c52, show peM t true 999 (needM t true R) = numM t 999 (needM t true (needM t true R)) from rfl, show peV t true 999 0 (needM t true R) = numM t 999 (needM t true (needM t true R)) 62 9 from rfl, e9]
        rw [hb1]
        exact l_X7_readBatch_82 (p := p2) ht (by omega) hcc hq hV hK hkk (SY_cells (ms_k (by decide)) (ms_k (by decide)) (fun _ _ => rfl) rfl hS2) (fun a h1 h2 => nA_roast h1 h2) (by rw [num_k (by decide), need_k (by decide), need_k (by decide)]) (fun k z1 z2 => (ms_k (by omega)).trans ((stC_k z2).trans ((stC_k z2).trans ((stC_k z2).trans (nA_k (by omega))))))
      · skip
        refine V.callv_i (M1 := stC t (stC t (nAddM 27 c (nI kk) M))) (v := -1) (md' := m_X7_readNumberBehind) (As := [.int 999]) (rest := []) dX7_readBatch_59 ml_X7_81 mo_X7_readNumberBehind ⟨Nat.le_of_ble_eq_true rfl, Nat.le_of_ble_eq_true rfl⟩ rfl ⟨_, _, rfl⟩ (Nat.le_of_ble_eq_true rfl) rfl rfl (Nat.le_of_ble_eq_true rfl) (v_X7_rn_f ht hS1 (most := nI 999) hb) rfl ?_
        refine V.ist_n dX7_readBatch_62 rfl (by decide) (L' := [(0, .ref 56), (1, .int (nI kk)), (2, .int (nI c)), (3, .int (-1))]) rfl rfl ?_
        refine V.iload_n dX7_readBatch_63 rfl rfl rfl ?_
        refine V.if_ge (tgt := 69) dX7_readBatch_64 rfl rfl (fun c64 => absurd c64 (by decide)) (fun _ => ?_)
        refine V.iconst (v := 0) dX7_readBatch_67 rfl rfl ?_
        exact V.ret dX7_readBatch_68 rfl rfl (⟨fun k z1 z2 => (stC_k z2).trans ((stC_k z2).trans (nA_k (by omega))), .inr ⟨rfl, FL_of eF (by rw [baM, show ba1 t c R = needM t true R from by rw [ba1, decide_eq_true (by omega)], show baB t (needM t true R) = true from decide_eq_true c52, show peM t true 999 (needM t true R) = numM t 999 (needM t true (needM t true R)) from rfl]; exact WR_tr hF (fun z => WR_tr (ba3_W z) ba4_W))⟩⟩)
  · skip
    refine V.iconst (v := 0) dX7_readBatch_22 rfl rfl ?_
    exact V.ret dX7_readBatch_23 rfl rfl (⟨KP_rf M, .inr ⟨rfl, FL_of (SY_from hS) (by rw [baM, show ba1 t c R = needM t false R from by rw [ba1, decide_eq_false (by omega)]]; exact WR_tr need_F (fun z => WR_tr (pe_W z) (fun z => WR_tr (ba3_W z) ba4_W)))⟩⟩)
theorem it_c {c cc q m A B : Nat} {M R : Mem} (hc : c ≤ 10) (hcc : cc ≤ 12) (hV : ST 27 c cc q m A B M R) : (R 63 1).toNatClampNeg = c ∧ (R 63 2).toNatClampNeg = cc := by
  obtain ⟨hb, h8, h11, s5, h13, h9, h7, h6, h5, hcr, hd, hc1, hc7, h4, h10, h12, h14, hs, s1, s2, s0, s4, sd, sg, sa, s9, s8, s6, sm⟩ := hV
  exact ⟨by rw [s1, nI_clamp (by omega)], by rw [s2, nI_clamp (by omega)]⟩
theorem v_X7_readItem {t p : Nat} (ht : t ≤ 120) {c : Nat} (hc : c ≤ 10) {cc : Nat} (hcc : cc ≤ 12) {q : Nat} (hq : q ≤ 99) {m A B : Nat} {M R : Mem} (hS : SY t p M R) (hV : ST 27 c cc q m A B M R) (hK : KI c R) : V m_X7_readItem 0 [(0, .ref 56)] [] M (IQ t m A B (itM t R) M) := by
  obtain ⟨e1, e2⟩ := it_c hc hcc hV
  refine V.aload_n dX7_readItem_0 rfl rfl rfl ?_
  refine V.getr dX7_readItem_1 fg_X7_9 rfl rfl rfl ?_
  refine V.ldcS (i := 0) dX7_readItem_4 (by decide) rfl rfl rfl ?_
  refine V.callv_i (M1 := M) (v := if wdF t R = 3751652 then 1 else 0) (md' := m_X6_isWord) (As := [.ref (100 + 0)]) (rest := []) dX7_readItem_6 ml_X7_40 mo_X6_isWord ⟨Nat.le_of_ble_eq_true rfl, Nat.le_of_ble_eq_true rfl⟩ rfl ⟨_, _, rfl⟩ (Nat.le_of_ble_eq_true rfl) rfl rfl (Nat.le_of_ble_eq_true rfl) (v_isW ht (by decide) hS cd_0) rfl ?_
  refine V.ifb_eq (tgt := 17) dX7_readItem_9 rfl rfl (fun c9 => ?_) (fun c9 => ?_)
  · skip
    refine V.aload_n dX7_readItem_17 rfl rfl rfl ?_
    refine V.getr dX7_readItem_18 fg_X7_9 rfl rfl rfl ?_
    refine V.ldcS (i := 1) dX7_readItem_21 (by decide) rfl rfl rfl ?_
    refine V.callv_i (M1 := M) (v := if wdF t R = 267316 then 1 else 0) (md' := m_X6_isWord) (As := [.ref (100 + 1)]) (rest := []) dX7_readItem_23 ml_X7_40 mo_X6_isWord ⟨Nat.le_of_ble_eq_true rfl, Nat.le_of_ble_eq_true rfl⟩ rfl ⟨_, _, rfl⟩ (Nat.le_of_ble_eq_true rfl) rfl rfl (Nat.le_of_ble_eq_true rfl) (v_isW ht (by decide) hS cd_1) rfl ?_
    refine V.ifb_eq (tgt := 35) dX7_readItem_26 rfl rfl (fun c26 => ?_) (fun c26 => ?_)
    · skip
      refine V.aload_n dX7_readItem_35 rfl rfl rfl ?_
      refine V.getr dX7_readItem_36 fg_X7_9 rfl rfl rfl ?_
      refine V.ldcS (i := 2) dX7_readItem_39 (by decide) rfl rfl rfl ?_
      refine V.callv_i (M1 := M) (v := if wdF t R = 17376357 then 1 else 0) (md' := m_X6_isWord) (As := [.ref (100 + 2)]) (rest := []) dX7_readItem_41 ml_X7_40 mo_X6_isWord ⟨Nat.le_of_ble_eq_true rfl, Nat.le_of_ble_eq_true rfl⟩ rfl ⟨_, _, rfl⟩ (Nat.le_of_ble_eq_true rfl) rfl rfl (Nat.le_of_ble_eq_true rfl) (v_isW ht (by decide) hS cd_2) rfl ?_
      refine V.ifb_eq (tgt := 53) dX7_readItem_44 rfl rfl (fun c44 => ?_) (fun c44 => ?_)
      · skip
        refine V.aload_n dX7_readItem_53 rfl rfl rfl ?_
        refine V.getr dX7_readItem_54 fg_X7_9 rfl rfl rfl ?_
        refine V.ldcS (i := 3) dX7_readItem_57 (by decide) rfl rfl rfl ?_
        refine V.callv_i (M1 := M) (v := if wdF t R = 114052 then 1 else 0) (md' := m_X6_isWord) (As := [.ref (100 + 3)]) (rest := []) dX7_readItem_59 ml_X7_40 mo_X6_isWord ⟨Nat.le_of_ble_eq_true rfl, Nat.le_of_ble_eq_true rfl⟩ rfl ⟨_, _, rfl⟩ (Nat.le_of_ble_eq_true rfl) rfl rfl (Nat.le_of_ble_eq_true rfl) (v_isW ht (by decide) hS cd_3) rfl ?_
        refine V.ifb_eq (tgt := 71) dX7_readItem_62 rfl rfl (fun c62 => ?_) (fun c62 => ?_)
        · skip
          refine V.aload_n dX7_readItem_71 rfl rfl rfl ?_
          rcases kI_nat (wdF t R) with hneg | ⟨kk, hkk, ek⟩
          · rw [itM, if_neg (Int32.not_le.mpr hneg), if_neg c9, if_neg c26, if_neg c44, if_neg c62]
            refine V.callv (md' := m_X7_readBatch) (As := []) (rest := []) dX7_readItem_72 ml_X7_57 mo_X7_readBatch ⟨Nat.le_of_ble_eq_true rfl, Nat.le_of_ble_eq_true rfl⟩ rfl ⟨_, _, rfl⟩ (Nat.le_of_ble_eq_true rfl) rfl rfl (Nat.le_of_ble_eq_true rfl) (v_X7_readBatch_n (m := m) (A := A) (B := B) ht hS hneg) (fun rv M' z => ?_)
            obtain ⟨zk, ⟨z1, z2⟩ | ⟨z1, z2⟩⟩ := z
            · rw [z1]; exact V.ret dX7_readItem_75 rfl rfl ⟨zk, .inl ⟨rfl, z2⟩⟩
            · rw [z1]; exact V.ret dX7_readItem_75 rfl rfl ⟨zk, .inr ⟨rfl, z2⟩⟩
          · rw [itM, if_pos (by rw [ek]; exact Int32.not_lt.mp (nnI (by omega))), e1, ek]
            refine V.callv (md' := m_X7_readBatch) (As := []) (rest := []) dX7_readItem_72 ml_X7_57 mo_X7_readBatch ⟨Nat.le_of_ble_eq_true rfl, Nat.le_of_ble_eq_true rfl⟩ rfl ⟨_, _, rfl⟩ (Nat.le_of_ble_eq_true rfl) rfl rfl (Nat.le_of_ble_eq_true rfl) (v_X7_readBatch ht hc hcc hq hS hV hK hkk ek) (fun rv M' z => ?_)
            obtain ⟨zk, ⟨z1, z2⟩ | ⟨z1, z2⟩⟩ := z
            · rw [z1]; exact V.ret dX7_readItem_75 rfl rfl ⟨zk, .inl ⟨rfl, z2⟩⟩
            · rw [z1]; exact V.ret dX7_readItem_75 rfl rfl ⟨zk, .inr ⟨rfl, z2⟩⟩
        · skip
          refine V.aload_n dX7_readItem_65 rfl rfl rfl ?_
          refine V.iconst (v := 2) dX7_readItem_66 rfl rfl ?_
          rw [itM, if_neg (show ¬ (0 ≤ kI (wdF t R)) from by rw [c62]; decide), if_neg c9, if_neg c26, if_neg c44, if_pos c62]
          refine V.callv (md' := m_X7_readRule) (As := [.int 2]) (rest := []) dX7_readItem_67 ml_X7_49 mo_X7_readRule ⟨Nat.le_of_ble_eq_true rfl, Nat.le_of_ble_eq_true rfl⟩ rfl ⟨_, _, rfl⟩ (Nat.le_of_ble_eq_true rfl) rfl rfl (Nat.le_of_ble_eq_true rfl) (v_X7_readRule_2 ht hc hcc hq hS hV hK) (fun rv M' z => ?_)
          obtain ⟨zk, ⟨z1, z2⟩ | ⟨z1, z2⟩⟩ := z
          · rw [z1]; exact V.ret dX7_readItem_70 rfl rfl ⟨zk, .inl ⟨rfl, z2⟩⟩
          · rw [z1]; exact V.ret dX7_readItem_70 rfl rfl ⟨zk, .inr ⟨rfl, z2⟩⟩
      · skip
        refine V.aload_n dX7_readItem_47 rfl rfl rfl ?_
        refine V.iconst (v := 1) dX7_readItem_48 rfl rfl ?_
        rw [itM, if_neg (show ¬ (0 ≤ kI (wdF t R)) from by rw [c44]; decide), if_neg c9, if_neg c26, if_pos c44]
        refine V.callv (md' := m_X7_readRule) (As := [.int 1]) (rest := []) dX7_readItem_49 ml_X7_49 mo_X7_readRule ⟨Nat.le_of_ble_eq_true rfl, Nat.le_of_ble_eq_true rfl⟩ rfl ⟨_, _, rfl⟩ (Nat.le_of_ble_eq_true rfl) rfl rfl (Nat.le_of_ble_eq_true rfl) (v_X7_readRule_1 ht hc hcc hq hS hV hK) (fun rv M' z => ?_)
        obtain ⟨zk, ⟨z1, z2⟩ | ⟨z1, z2⟩⟩ := z
        · rw [z1]; exact V.ret dX7_readItem_52 rfl rfl ⟨zk, .inl ⟨rfl, z2⟩⟩
        · rw [z1]; exact V.ret dX7_readItem_52 rfl rfl ⟨zk, .inr ⟨rfl, z2⟩⟩
    · skip
      refine V.aload_n dX7_readItem_29 rfl rfl rfl ?_
      refine V.iconst (v := 0) dX7_readItem_30 rfl rfl ?_
      rw [itM, if_neg (show ¬ (0 ≤ kI (wdF t R)) from by rw [c26]; decide), if_neg c9, if_pos c26]
      refine V.callv (md' := m_X7_readRule) (As := [.int 0]) (rest := []) dX7_readItem_31 ml_X7_49 mo_X7_readRule ⟨Nat.le_of_ble_eq_true rfl, Nat.le_of_ble_eq_true rfl⟩ rfl ⟨_, _, rfl⟩ (Nat.le_of_ble_eq_true rfl) rfl rfl (Nat.le_of_ble_eq_true rfl) (v_X7_readRule_0 ht hc hcc hq hS hV hK) (fun rv M' z => ?_)
      obtain ⟨zk, ⟨z1, z2⟩ | ⟨z1, z2⟩⟩ := z
      · rw [z1]; exact V.ret dX7_readItem_34 rfl rfl ⟨zk, .inl ⟨rfl, z2⟩⟩
      · rw [z1]; exact V.ret dX7_readItem_34 rfl rfl ⟨zk, .inr ⟨rfl, z2⟩⟩
  · skip
    refine V.aload_n dX7_readItem_12 rfl rfl rfl ?_
    rw [itM, if_neg (show ¬ (0 ≤ kI (wdF t R)) from by rw [c9]; decide), if_pos c9, e2]
    refine V.callv (md' := m_X7_readCrowd) (As := []) (rest := []) dX7_readItem_13 ml_X7_44 mo_X7_readCrowd ⟨Nat.le_of_ble_eq_true rfl, Nat.le_of_ble_eq_true rfl⟩ rfl ⟨_, _, rfl⟩ (Nat.le_of_ble_eq_true rfl) rfl rfl (Nat.le_of_ble_eq_true rfl) (v_X7_readCrowd ht hc hcc hq hS hV hK) (fun rv M' z => ?_)
    obtain ⟨zk, ⟨z1, z2⟩ | ⟨z1, z2⟩⟩ := z
    · rw [z1]; exact V.ret dX7_readItem_16 rfl rfl ⟨zk, .inl ⟨rfl, z2⟩⟩
    · rw [z1]; exact V.ret dX7_readItem_16 rfl rfl ⟨zk, .inr ⟨rfl, z2⟩⟩
theorem it_W {t : Nat} {R : Mem} (hw : ¬ R 62 10 = 0) : WRf R (itM t R) := by
  have e : wdF t R = 0 := if_neg (fun q => hw q.1)
  unfold itM
  rw [e, if_neg (by decide), if_neg (by decide), if_neg (by decide), if_neg (by decide), if_neg (by decide)]
  exact need_W hw
theorem it_rs {t : Nat} (ht : t ≤ 120) {R : Mem} (hT : TK t R) : ∃ b, RS t (needM t b R) (itM t R) := by
  unfold itM
  split
  · refine ⟨decide ((R 63 1).toNatClampNeg < 10), ?_⟩
    unfold baM
    have h1 : RS t R (ba1 t (R 63 1).toNatClampNeg R) := RS_need ht hT
    have h2 := RS_pe (b := baB t (ba1 t (R 63 1).toNatClampNeg R)) (h := 999) ht h1.1
    have h3 := RS_ba3 (c := (R 63 1).toNatClampNeg) ht h2.1
    refine h2.trans (h3.trans ?_)
    unfold ba4
    split
    · next q => exact RS_newB (of_decide_eq_true (need_w.mp (h2.2.2.1 (h3.2.2.1 q))).2) h3.1
    · exact RS.self h3.1
  split
  · refine ⟨decide ((R 63 2).toNatClampNeg < 12), ?_⟩
    generalize (R 63 2).toNatClampNeg = cc
    unfold crM cr3 cr4 cr5 cr6
    have h1 := RS_need (b := decide (cc < 12)) ht hT
    have h2 := RS_num (h := 400) ht h1.1
    have h3 := RS_need (b := decide (wdF t (numM t 400 (needM t (decide (cc < 12)) R)) = 52)) ht h2.1
    have h4 := RS_num (h := 3) ht h3.1
    have h5 := RS_need (b := decide (wdF t (numM t 3 (needM t (decide (wdF t (numM t 400 (needM t (decide (cc < 12)) R)) = 52)) (numM t 400 (needM t (decide (cc < 12)) R)))) = 446125701)) ht h4.1
    have h6 := RS_num (h := 999) ht h5.1
    refine h2.trans (h3.trans (h4.trans (h5.trans (h6.trans ?_))))
    split
    · next q => exact RS_newC (of_decide_eq_true (need_w.mp (h2.2.2.1 (h3.2.2.1 (h4.2.2.1 (h5.2.2.1 (h6.2.2.1 q)))))).2) h6.1
    · exact RS.self h6.1
  have ru : ∀ j h, j < 3 → RS t (needM t true R) (ruM t j h R) := by
    intro j h hj
    have h1 := RS_num (h := h) ht (TK_need (b := true) ht hT)
    unfold ruM
    refine h1.trans ?_
    split
    · exact RS_63 (by omega) h1.1
    · exact RS.self h1.1
  split
  · exact ⟨true, ru 0 20 (by decide)⟩
  split
  · exact ⟨true, ru 1 99 (by decide)⟩
  split
  · exact ⟨true, ru 2 9 (by decide)⟩
  · exact ⟨false, RS.self (TK_need ht hT)⟩
/-- an item that is read takes a byte at least -/
theorem it_go {t p : Nat} (ht : t ≤ 120) {M R : Mem} (hS : SY t p M R) (hw : itM t R 62 10 = 0) : p < frm (itM t R) ∧ p < t := by
  have hT := SY_TK hS
  have hS0 := hS
  obtain ⟨hp, m1, m2, m3, m4, m5, m55, r6, r7, r8, r10⟩ := hS
  have hf : frm R = p := by unfold frm; rw [r7, nI_clamp (by omega)]
  have hlt : p < t := by
    rcases Nat.lt_or_ge p t with z | z
    · exact z
    · exfalso
      have e : wdF t R = 0 := by
        unfold wdF
        rw [r7, nI_clamp (by omega), bA_t z]
        exact if_neg (fun q => absurd q.2 (by decide))
      unfold itM at hw
      rw [e, if_neg (by decide), if_neg (by decide), if_neg (by decide), if_neg (by decide), if_neg (by decide)] at hw
      exact need_F.1 hw
  obtain ⟨b, hb⟩ := it_rs ht hT
  have h1 := need_go ht hT (hb.2.2.1 hw) (by rw [hf]; exact hlt)
  rw [hf] at h1
  exact ⟨Nat.lt_of_lt_of_le h1 hb.2.1, hlt⟩
/-- a text read: in step, with so many items, or at the fault -/
def TQ (t m A B : Nat) (r : Nat × Mem) (M : Mem) : Option Value → Mem → Prop := fun rv M' => KP M' M ∧ ((rv = some (.int (nI r.1)) ∧ r.2 62 10 = 0 ∧ r.1 ≤ 121 ∧ ∃ c' cc' q', c' ≤ 10 ∧ cc' ≤ 12 ∧ q' ≤ 99 ∧ ST 27 c' cc' q' m A B M' r.2 ∧ KI c' r.2) ∨ (rv = some (.int (-1 - r.2 62 7)) ∧ ¬ r.2 62 10 = 0 ∧ ∃ p', p' ≤ 120 ∧ r.2 62 7 = nI p'))
theorem ty_0 {t p : Nat} {f : Nat → Int32} : tyF t f p = 0 ↔ t ≤ p := by
  unfold tyF
  by_cases h : t ≤ p
  · rw [if_pos h]; exact ⟨fun _ => h, fun _ => rfl⟩
  · rw [if_neg h]
    refine ⟨fun q => ?_, fun q => absurd q h⟩
    exfalso
    split at q
    · exact absurd q (by decide)
    · split at q
      · exact absurd q (by decide)
      · split at q <;> exact absurd q (by decide)
theorem ty_3 {t p : Nat} {f : Nat → Int32} (hp : p < t) : tyF t f p = 3 ↔ f p = 59 := by
  unfold tyF
  rw [if_neg (by omega)]
  by_cases h1 : isL (f p) = true
  · rw [if_pos h1]
    refine ⟨fun q => absurd q (by decide), fun q => ?_⟩
    rw [q] at h1; exact absurd h1 (by decide)
  · rw [if_neg h1]
    by_cases h2 : isD (f p) = true
    · rw [if_pos h2]
      refine ⟨fun q => absurd q (by decide), fun q => ?_⟩
      rw [q] at h2; exact absurd h2 (by decide)
    · rw [if_neg h2]
      by_cases h3 : f p = 59
      · rw [if_pos h3]; exact ⟨fun _ => h3, fun _ => rfl⟩
      · rw [if_neg h3]; exact ⟨fun q => absurd q (by decide), fun q => absurd q h3⟩
theorem tx_0 {t n i : Nat} {Mx : Mem} (h : ¬ (Mx 62 10 = 0 ∧ frm Mx < t)) : txG t n i Mx = (i, Mx) := by
  rcases n with _ | n
  · rfl
  · exact if_neg h
theorem tx_1 {t n i : Nat} {Mx : Mem} (h : Mx 62 10 = 0 ∧ frm Mx < t) : txG t (n + 1) i Mx = txG t n (i + 1) (itM t (needM t (decide (bA t (Mx 67) (frm Mx) = 59)) Mx)) := if_pos h
theorem go3 {t p' p3 : Nat} (ht : t ≤ 120) {M' R' M3 : Mem} (hS' : SY t p' M' R') (hS3 : SY t p3 M3 (needM t true R')) (hlt : p' < t) (hfr : frm R' = p') : p' < p3 := by
  have y := need_go ht (SY_TK hS') (b := true) hS3.2.2.2.2.2.2.2.2.2.2 (by rw [hfr]; exact hlt)
  rw [hfr] at y
  unfold frm at y
  rw [hS3.2.2.2.2.2.2.2.2.1, nI_clamp (by have := hS3.1; omega)] at y
  exact y
theorem it_pos {t p : Nat} (ht : t ≤ 120) {M R : Mem} (hS : SY t p M R) : ∃ p', p' ≤ 120 ∧ itM t R 62 7 = nI p' := by
  obtain ⟨h6, ⟨a, r, h1, h2, h3, h7, h8⟩, h10⟩ := (RS_it ht (SY_TK hS)).1
  exact ⟨a, by omega, h7⟩
theorem l_X7_readText {t : Nat} (ht : t ≤ 120) {m A B : Nat} (M0 : Mem) : ∀ (n i p c cc q : Nat) (M R : Mem), c ≤ 10 → cc ≤ 12 → q ≤ 99 → SY t p M R → ST 27 c cc q m A B M R → KI c R → KP M M0 → i + n = 122 → 1 ≤ i → 2 * i ≤ p + 2 → V m_X7_readText 9 [(0, .ref 56), (1, .int (nI i))] [] M (TQ t m A B (txG t n i (itM t R)) M0) := by
  intro n
  induction n with
  | zero =>
    intro i p c cc q M R hc hcc hq hS hV hK hP hi h1 hip
    exfalso
    have := hS.1
    omega
  | succ n ih =>
    intro i p c cc q M R hc hcc hq hS hV hK hP hi h1 hip
    have hp := hS.1
    refine V.iload_n dX7_readText_9 rfl rfl rfl ?_
    refine V.bipush (v := 120) dX7_readText_10 (by decide) rfl ?_
    refine V.icmp_gt (tgt := 64) dX7_readText_12 rfl rfl (fun c12 => absurd ((nI_ltI (a := 120) (b := i) (by omega) (by omega)).mp c12) (by omega)) (fun c12 => ?_)
    have c12 : ¬ 120 < i := fun zq => c12 ((nI_ltI (a := 120) (b := i) (by omega) (by omega)).mpr zq)
    refine V.aload_n dX7_readText_15 rfl rfl rfl ?_
    refine V.callv (md' := m_X7_readItem) (As := []) (rest := []) dX7_readText_16 ml_X7_24 mo_X7_readItem ⟨Nat.le_of_ble_eq_true rfl, Nat.le_of_ble_eq_true rfl⟩ rfl ⟨_, _, rfl⟩ (Nat.le_of_ble_eq_true rfl) rfl rfl (Nat.le_of_ble_eq_true rfl) (v_X7_readItem ht hc hcc hq hS hV hK) (fun rv M' z => ?_)
    obtain ⟨zk, ⟨z1, p', c', cc', q', hS', hc', hcc', hq', hV', hK'⟩ | ⟨z1, hFL⟩⟩ := z
    · rw [z1]
      show V m_X7_readText 19 [(0, .ref 56), (1, .int (nI i))] [.int 1] M' _
      have hgo := it_go ht hS hS'.2.2.2.2.2.2.2.2.2.2
      have hp' := hS'.1
      have hfr : frm (itM t R) = p' := by unfold frm; rw [hS'.2.2.2.2.2.2.2.2.1, nI_clamp (by omega)]
      rw [hfr] at hgo
      have hP' : KP M' M0 := fun k y1 y2 => (zk k y1 y2).trans (hP k y1 y2)
      refine V.if_ne (tgt := 25) dX7_readText_19 rfl rfl (fun _ => ?_) (fun c19 => absurd c19 (by decide))
      refine V.aload_n dX7_readText_25 rfl rfl rfl ?_
      refine V.getr dX7_readText_26 fg_X7_9 rfl rfl rfl ?_
      refine V.geti (v := tyF t (itM t R 67) p') dX7_readText_29 fg_X7_28 rfl rfl hS'.2.2.2.2.1 rfl ?_
      refine V.if_ne (tgt := 37) dX7_readText_32 rfl rfl (fun c32 => ?_) (fun c32 => ?_)
      · skip
        refine V.aload_n dX7_readText_37 rfl rfl rfl ?_
        refine V.getr dX7_readText_38 fg_X7_9 rfl rfl rfl ?_
        refine V.geti (v := tyF t (itM t R 67) p') dX7_readText_41 fg_X7_28 rfl rfl hS'.2.2.2.2.1 rfl ?_
        refine V.iconst (v := 3) dX7_readText_44 rfl rfl ?_
        refine V.icmp_eq (tgt := 51) dX7_readText_45 rfl rfl (fun c45 => ?_) (fun c45 => ?_)
        · skip
          refine V.aload_n dX7_readText_51 rfl rfl rfl ?_
          refine V.getr dX7_readText_52 fg_X7_9 rfl rfl rfl ?_
          refine V.callv_v (M1 := stC t M') (md' := m_X6_step) (As := []) (rest := []) dX7_readText_55 ml_X7_32 mo_X6_step ⟨Nat.le_of_ble_eq_true rfl, Nat.le_of_ble_eq_true rfl⟩ rfl ⟨_, _, rfl⟩ (Nat.le_of_ble_eq_true rfl) rfl rfl (Nat.le_of_ble_eq_true rfl) (v_stepS ht hS') rfl ?_
          refine V.inc (v := nI (i + 1)) dX7_readText_58 rfl (nI_1 _) (by decide) (L' := [(0, .ref 56), (1, .int (nI (i + 1)))]) rfl rfl ?_
          refine V.goto (pc' := 9) dX7_readText_61 rfl ?_
          have hlt : p' < t := Nat.lt_of_not_le (fun y => c32 (ty_0.mpr y))
          have e59 : decide (bA t (itM t R 67) (frm (itM t R)) = 59) = true := decide_eq_true (by rw [hfr, bA_p hlt]; exact (ty_3 hlt).mp c45)
          rw [tx_1 ⟨hS'.2.2.2.2.2.2.2.2.2.2, by rw [hfr]; exact hlt⟩, e59]
          obtain ⟨p3, hS3⟩ := SY_tok ht hS'
          have hgo3 : p' < p3 := go3 ht hS' hS3 hlt hfr
          exact ih (i + 1) p3 c' cc' q' _ _ hc' hcc' hq' hS3 (ST_st (ST_R (need_k (by decide)) hV')) (KI_R (need_k (by decide)) hK') (KP_st hP') (by omega) (by omega) (by omega)
        · skip
          refine V.goto (pc' := 64) dX7_readText_48 rfl ?_
          have hp120 : p' ≤ 120 := by omega
          have hlt : p' < t := Nat.lt_of_not_le (fun y => c32 (ty_0.mpr y))
          have hW : WRf (itM t R) (itM t (needM t (decide (bA t (itM t R 67) (frm (itM t R)) = 59)) (itM t R))) := by rw [decide_eq_false (fun y => by rw [hfr, bA_p hlt] at y; exact c45 ((ty_3 hlt).mpr y))]; exact WR_tr need_F it_W
          have htx : txG t (n + 1) i (itM t R) = (i + 1, itM t (needM t (decide (bA t (itM t R 67) (frm (itM t R)) = 59)) (itM t R))) := by rw [tx_1 ⟨hS'.2.2.2.2.2.2.2.2.2.2, by rw [hfr]; exact hlt⟩, tx_0 (fun y => hW.1 y.1)]
          obtain ⟨X, hX⟩ : ∃ X, X = itM t (needM t (decide (bA t (itM t R 67) (frm (itM t R)) = 59)) (itM t R)) := ⟨_, rfl⟩
          rw [← hX] at hW htx
          refine V.iconst (v := -1) dX7_readText_64 rfl rfl ?_
          refine V.aload_n dX7_readText_65 rfl rfl rfl ?_
          refine V.getr dX7_readText_66 fg_X7_9 rfl rfl rfl ?_
          refine V.geti (v := nI (p')) dX7_readText_69 fg_X7_35 rfl rfl hS'.2.2.1 rfl ?_
          refine V.isub (v := (-1) - (nI (p'))) dX7_readText_72 rfl rfl ?_
          exact V.ret dX7_readText_73 rfl rfl (by rw [htx]; exact ⟨hP', .inr ⟨by show some (Value.int (-1 - nI p')) = some (Value.int (-1 - X 62 7)); rw [hW.2, hS'.2.2.2.2.2.2.2.2.1], hW.1, p', hp120, hW.2.trans hS'.2.2.2.2.2.2.2.2.1⟩⟩)
      · skip
        have htx0 : txG t (n + 1) i (itM t R) = (i, itM t R) := tx_0 (fun y => by rw [hfr] at y; have := ty_0.mp c32; omega)
        have hi121 : i ≤ 121 := by omega
        refine V.iload_n dX7_readText_35 rfl rfl rfl ?_
        exact V.ret dX7_readText_36 rfl rfl (by rw [htx0]; exact ⟨hP', .inl ⟨rfl, hS'.2.2.2.2.2.2.2.2.2.2, hi121, c', cc', q', hc', hcc', hq', hV', hK'⟩⟩)
    · rw [z1]
      show V m_X7_readText 19 [(0, .ref 56), (1, .int (nI i))] [.int 0] M' _
      have htx : txG t (n + 1) i (itM t R) = (i, itM t R) := tx_0 (fun y => hFL.1 y.1)
      have hP' : KP M' M0 := fun k y1 y2 => (zk k y1 y2).trans (hP k y1 y2)
      refine V.if_ne (tgt := 25) dX7_readText_19 rfl rfl (fun c19 => absurd c19 (by decide)) (fun _ => ?_)
      refine V.goto (pc' := 64) dX7_readText_22 rfl ?_
      refine V.iconst (v := -1) dX7_readText_64 rfl rfl ?_
      refine V.aload_n dX7_readText_65 rfl rfl rfl ?_
      refine V.getr dX7_readText_66 fg_X7_9 rfl rfl rfl ?_
      refine V.geti (v := (M') 54 2) dX7_readText_69 fg_X7_35 rfl rfl rfl rfl ?_
      refine V.isub (v := (-1) - ((M') 54 2)) dX7_readText_72 rfl rfl ?_
      exact V.ret dX7_readText_73 rfl rfl (by rw [htx]; exact ⟨hP', .inr ⟨by show some (Value.int (-1 - M' 54 2)) = some (Value.int (-1 - itM t R 62 7)); rw [hFL.2], hFL.1, it_pos ht hS⟩⟩)
