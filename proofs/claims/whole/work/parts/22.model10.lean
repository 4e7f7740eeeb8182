/-! The reference's plays, second part -/
theorem off_goes {M' M : Mem} {b : Nat} (hb : b < 10) (h : Off M' M) : Off (mGoesM b M') M := off_ms (by omega) (off_ms (by omega) (off_ms (by decide) h))
theorem off_put {M' M : Mem} {b : Nat} {p : Int32} (hb : b < 10) (h : Off M' M) : Off (mPutM b p M') M := by
  unfold mPutM
  split
  · exact off_goes hb h
  · exact off_ms (by omega) (off_ms (by omega) h)
theorem WM_row {c cc m b w : Nat} {v : Int32} {M : Mem} (hw : w < 5) (hb : b < 10) (h : WM c cc m M) : WM c cc m (ms M 63 (20 + 5 * b + w) v) := by
  obtain ⟨h1, h2, h0, h4, hd, hq⟩ := h
  refine ⟨by rw [ms_j (by omega)]; exact h1, by rw [ms_j (by omega)]; exact h2, by rw [ms_j (by omega)]; exact h0, by rw [ms_j (by omega)]; exact h4, fun k hk => by rw [ms_j (by omega)]; exact hd k hk, fun i hi => ?_⟩
  rw [ms_j (by omega), ms_j (by omega), ms_j (by omega)]
  exact hq i hi
theorem WM_11 {c cc m : Nat} {v : Int32} {M : Mem} (h : WM c cc m M) : WM c cc m (ms M 63 11 v) := by
  obtain ⟨h1, h2, h0, h4, hd, hq⟩ := h
  refine ⟨by rw [ms_j (by omega)]; exact h1, by rw [ms_j (by omega)]; exact h2, by rw [ms_j (by omega)]; exact h0, by rw [ms_j (by omega)]; exact h4, fun k hk => by rw [ms_j (by omega)]; exact hd k hk, fun i hi => ?_⟩
  rw [ms_j (by omega), ms_j (by omega), ms_j (by omega)]
  exact hq i hi
theorem WM_put {c cc m b : Nat} {p : Int32} {M : Mem} (hb : b < 10) (h : WM c cc m M) : WM c cc m (mPutM b p M) := by
  unfold mPutM
  split
  · exact WM_row (w := 4) (by decide) hb (WM_row (w := 1) (by decide) hb (WM_11 h))
  · exact WM_row (w := 3) (by decide) hb (WM_row (w := 4) (by decide) hb h)
theorem WM_SV {c cc m : Nat} {M : Mem} (h : WM c cc m M) : WM c cc m (SV M) := by
  obtain ⟨h1, h2, h0, h4, hd, hq⟩ := h
  unfold WM
  rw [SV_63]
  exact ⟨h1, h2, h0, h4, hd, hq⟩
def mnN (i k : Nat) : Nat := if i < k then i else k
def tkM (c cc k m b i : Nat) (M : Mem) : Mem := if i < k ∧ ¬ mGo c cc (mnN i k) m (SV M) 63 (20 + 5 * b + 4) = 4 then mPutM b 3 (mGo c cc (mnN i k) m (SV M)) else mGo c cc (mnN i k) m (SV M)
def tkF (c cc k m b : Nat) (M : Mem) : Nat → Int32 := fun i => cnF c cc (k - mnN i k) (m + mnN i k) (tkM c cc k m b i M) M
theorem mn_le (i k : Nat) : mnN i k ≤ k := by unfold mnN; split <;> omega
theorem mn_61 {i k : Nat} (h : i < 61) : mnN i k ≤ 60 := by unfold mnN; split <;> omega
theorem l_X9_takeOff {c : Nat} (hc : c ≤ 10) {cc : Nat} (hcc : cc ≤ 12) {k m : Nat} (hk : k ≤ 120) (hm : m ≤ 3000) (M : Mem) {x : Nat} (hx : x < c) (hW : WM c cc m M) : ∀ (n i : Nat) (b mo : Int32), i + n = 61 → V m_X9_takeOff 57 [(0, .ref 62), (1, .int (nI x)), (2, .int (nI k)), (3, .int b), (4, .int mo), (5, .int (nI i))] [] (SV M) (RT (some (.int (bestG (tkF c cc k m x M) nI n i b mo))) (SV M)) := by
  intro n
  induction n with
  | zero =>
    intro i b mo hi
    refine V.iload dX9_takeOff_57 rfl rfl ?_
    refine V.bipush (v := 61) dX9_takeOff_59 (by decide) rfl ?_
    refine V.icmp_ge (tgt := 152) dX9_takeOff_61 rfl rfl (fun c61 => ?_) (fun c61 => absurd ((nI_leI (a := 61) (b := i) (by omega) (by omega)).mpr (by omega)) c61)
    have c61 : 61 ≤ i := (nI_leI (a := 61) (b := i) (by omega) (by omega)).mp c61
    refine V.iload_n dX9_takeOff_152 rfl rfl rfl ?_
    exact V.ret dX9_takeOff_153 rfl rfl ⟨rfl, rfl⟩
  | succ n ih =>
    intro i b mo hi
    refine V.iload dX9_takeOff_57 rfl rfl ?_
    refine V.bipush (v := 61) dX9_takeOff_59 (by decide) rfl ?_
    refine V.icmp_ge (tgt := 152) dX9_takeOff_61 rfl rfl (fun c61 => absurd ((nI_leI (a := 61) (b := i) (by omega) (by omega)).mp c61) (by omega)) (fun c61 => ?_)
    have c61 : ¬ 61 ≤ i := fun zq => c61 ((nI_leI (a := 61) (b := i) (by omega) (by omega)).mpr zq)
    refine V.iload dX9_takeOff_64 rfl rfl ?_
    refine V.iload_n dX9_takeOff_66 rfl rfl rfl ?_
    refine V.icmp_ge (tgt := 75) dX9_takeOff_67 rfl rfl (fun c67 => ?_) (fun c67 => ?_)
    · have c67 : k ≤ i := (nI_leI (a := k) (b := i) (by omega) (by omega)).mp c67
      refine V.iload_n dX9_takeOff_75 rfl rfl rfl ?_
      refine V.top (y := nI (mnN i k)) (by rw [mnN, if_neg (by omega)]) ?_
      refine V.ist dX9_takeOff_76 (by decide) (L' := [(0, .ref 62), (1, .int (nI x)), (2, .int (nI k)), (3, .int b), (4, .int mo), (5, .int (nI i)), (6, .int (nI (mnN i k)))]) rfl rfl ?_
      refine V.aload_n dX9_takeOff_78 rfl rfl rfl ?_
      refine V.iload dX9_takeOff_79 rfl rfl ?_
      refine V.callv_v (M1 := mGo c cc (mnN i k) m (SV M)) (md' := m_X9_minutesGo) (As := [.int (nI (mnN i k))]) (rest := []) dX9_takeOff_81 ml_X9_174 mo_X9_minutesGo ⟨Nat.le_of_ble_eq_true rfl, Nat.le_of_ble_eq_true rfl⟩ rfl ⟨_, _, rfl⟩ (Nat.le_of_ble_eq_true rfl) rfl rfl (Nat.le_of_ble_eq_true rfl) (v_X9_minutesGo hc hcc (by have := mn_le i k; omega) _ (WM_SV hW) (by have := mn_le i k; omega)) rfl ?_
      refine V.iload dX9_takeOff_84 rfl rfl ?_
      refine V.iload_n dX9_takeOff_86 rfl rfl rfl ?_
      refine V.icmp_ge (tgt := 106) dX9_takeOff_87 rfl rfl (fun c87 => ?_) (fun c87 => ?_)
      · have c87 : k ≤ i := (nI_leI (a := k) (b := i) (by omega) (by omega)).mp c87
        refine V.aload_n dX9_takeOff_106 rfl rfl rfl ?_
        refine V.iload_n dX9_takeOff_107 rfl rfl rfl ?_
        refine V.iload dX9_takeOff_108 rfl rfl ?_
        refine V.isub (v := nI (k - mnN i k)) dX9_takeOff_110 (pk_sub (mn_le i k)) rfl ?_
        refine V.callv_i (M1 := SV M) (v := tkF c cc k m x M i) (md' := m_X9_coinIn) (As := [.int (nI (k - mnN i k))]) (rest := []) dX9_takeOff_111 ml_X9_205 mo_X9_coinIn ⟨Nat.le_of_ble_eq_true rfl, Nat.le_of_ble_eq_true rfl⟩ rfl ⟨_, _, rfl⟩ (Nat.le_of_ble_eq_true rfl) rfl rfl (Nat.le_of_ble_eq_true rfl) (by rw [show mGo c cc (mnN i k) m (SV M) = tkM c cc k m x i M from by rw [tkM, if_neg (fun q => absurd q.1 (by omega))]]; exact v_X9_coinIn hc hcc (n := k - mnN i k) (m := m + mnN i k) (by omega) (by have := mn_le i k; omega) M _ (by unfold tkM; split <;> first | exact off_put (by omega) (off_go hc _ _ _ (off_self M)) | exact off_go hc _ _ _ (off_self M)) (by unfold tkM; split <;> first | exact WM_put (by omega) (WM_go hc _ _ _ (WM_SV hW)) | exact WM_go hc _ _ _ (WM_SV hW))) rfl ?_
        refine V.ist dX9_takeOff_114 (by decide) (L' := [(0, .ref 62), (1, .int (nI x)), (2, .int (nI k)), (3, .int b), (4, .int mo), (5, .int (nI i)), (6, .int (nI (mnN i k))), (7, .int (tkF c cc k m x M i))]) rfl rfl ?_
        refine V.iload dX9_takeOff_116 rfl rfl ?_
        refine V.iload dX9_takeOff_118 rfl rfl ?_
        refine V.icmp_le (tgt := 128) dX9_takeOff_120 rfl rfl (fun c120 => ?_) (fun c120 => ?_)
        · skip
          refine V.iload_n dX9_takeOff_128 rfl rfl rfl ?_
          refine V.ist_n dX9_takeOff_129 rfl (by decide) (L' := [(0, .ref 62), (1, .int (nI x)), (2, .int (nI k)), (3, .int b), (4, .int mo), (5, .int (nI i)), (6, .int (nI (mnN i k))), (7, .int (tkF c cc k m x M i))]) rfl rfl ?_
          refine V.iload dX9_takeOff_130 rfl rfl ?_
          refine V.iload dX9_takeOff_132 rfl rfl ?_
          refine V.icmp_le (tgt := 142) dX9_takeOff_134 rfl rfl (fun c134 => ?_) (fun c134 => absurd c134 (fun q => q c120))
          refine V.iload dX9_takeOff_142 rfl rfl ?_
          refine V.ist dX9_takeOff_144 (by decide) (L' := [(0, .ref 62), (1, .int (nI x)), (2, .int (nI k)), (3, .int b), (4, .int mo), (5, .int (nI i)), (6, .int (nI (mnN i k))), (7, .int (tkF c cc k m x M i))]) rfl rfl ?_
          refine V.inc (v := nI (i + 1)) dX9_takeOff_146 rfl (nI_1 _) (by decide) (L' := [(0, .ref 62), (1, .int (nI x)), (2, .int (nI k)), (3, .int b), (4, .int mo), (5, .int (nI (i + 1))), (6, .int (nI (mnN i k))), (7, .int (tkF c cc k m x M i))]) rfl rfl ?_
          refine V.goto (pc' := 57) dX9_takeOff_149 rfl ?_
          refine V.loc (L' := [(0, .ref 62), (1, .int (nI x)), (2, .int (nI k)), (3, .int b), (4, .int mo), (5, .int (nI (i + 1)))]) (fun zq zh => List.mem_append_left [(6, Value.int (nI (mnN i k))), (7, Value.int (tkF c cc k m x M i))] zh) ?_
          rw [show bestG (tkF c cc k m x M) nI (n + 1) i b mo = bestG (tkF c cc k m x M) nI n (i + 1) b mo from by simp only [bestG]; rw [if_neg (Int32.not_lt.mpr c120), if_neg (Int32.not_lt.mpr c120)]]
          exact ih (i + 1) _ _ (by omega)
        · skip
          refine V.iload dX9_takeOff_123 rfl rfl ?_
          refine V.goto (pc' := 129) dX9_takeOff_125 rfl ?_
          refine V.ist_n dX9_takeOff_129 rfl (by decide) (L' := [(0, .ref 62), (1, .int (nI x)), (2, .int (nI k)), (3, .int (nI i)), (4, .int mo), (5, .int (nI i)), (6, .int (nI (mnN i k))), (7, .int (tkF c cc k m x M i))]) rfl rfl ?_
          refine V.iload dX9_takeOff_130 rfl rfl ?_
          refine V.iload dX9_takeOff_132 rfl rfl ?_
          refine V.icmp_le (tgt := 142) dX9_takeOff_134 rfl rfl (fun c134 => absurd c134 c120) (fun c134 => ?_)
          refine V.iload dX9_takeOff_137 rfl rfl ?_
          refine V.goto (pc' := 144) dX9_takeOff_139 rfl ?_
          refine V.ist dX9_takeOff_144 (by decide) (L' := [(0, .ref 62), (1, .int (nI x)), (2, .int (nI k)), (3, .int (nI i)), (4, .int (tkF c cc k m x M i)), (5, .int (nI i)), (6, .int (nI (mnN i k))), (7, .int (tkF c cc k m x M i))]) rfl rfl ?_
          refine V.inc (v := nI (i + 1)) dX9_takeOff_146 rfl (nI_1 _) (by decide) (L' := [(0, .ref 62), (1, .int (nI x)), (2, .int (nI k)), (3, .int (nI i)), (4, .int (tkF c cc k m x M i)), (5, .int (nI (i + 1))), (6, .int (nI (mnN i k))), (7, .int (tkF c cc k m x M i))]) rfl rfl ?_
          refine V.goto (pc' := 57) dX9_takeOff_149 rfl ?_
          refine V.loc (L' := [(0, .ref 62), (1, .int (nI x)), (2, .int (nI k)), (3, .int (nI i)), (4, .int (tkF c cc k m x M i)), (5, .int (nI (i + 1)))]) (fun zq zh => List.mem_append_left [(6, Value.int (nI (mnN i k))), (7, Value.int (tkF c cc k m x M i))] zh) ?_
          rw [show bestG (tkF c cc k m x M) nI (n + 1) i b mo = bestG (tkF c cc k m x M) nI n (i + 1) (nI i) (tkF c cc k m x M i) from by simp only [bestG]; rw [if_pos (Int32.not_le.mp c120), if_pos (Int32.not_le.mp c120)]]
          exact ih (i + 1) _ _ (by omega)
      · have c87 : ¬ k ≤ i := fun zq => c87 ((nI_leI (a := k) (b := i) (by omega) (by omega)).mpr zq)
        refine V.aload_n dX9_takeOff_90 rfl rfl rfl ?_
        refine V.iload_n dX9_takeOff_91 rfl rfl rfl ?_
        refine V.iconst (v := 4) dX9_takeOff_92 rfl rfl ?_
        refine V.callv_i (M1 := mGo c cc (mnN i k) m (SV M)) (v := (mGo c cc (mnN i k) m (SV M)) 63 (20 + 5 * x + 4)) (md' := m_X9_its) (As := [.int (nI x), .int 4]) (rest := []) dX9_takeOff_93 ml_X9_60 mo_X9_its ⟨Nat.le_of_ble_eq_true rfl, Nat.le_of_ble_eq_true rfl⟩ rfl ⟨_, _, rfl⟩ (Nat.le_of_ble_eq_true rfl) rfl rfl (Nat.le_of_ble_eq_true rfl) (v_X9_its (b := x) (w := 4) (by omega) (by omega) _) rfl ?_
        refine V.iconst (v := 4) dX9_takeOff_96 rfl rfl ?_
        refine V.icmp_eq (tgt := 106) dX9_takeOff_97 rfl rfl (fun c97 => ?_) (fun c97 => ?_)
        · skip
          refine V.aload_n dX9_takeOff_106 rfl rfl rfl ?_
          refine V.iload_n dX9_takeOff_107 rfl rfl rfl ?_
          refine V.iload dX9_takeOff_108 rfl rfl ?_
          refine V.isub (v := nI (k - mnN i k)) dX9_takeOff_110 (pk_sub (mn_le i k)) rfl ?_
          refine V.callv_i (M1 := SV M) (v := tkF c cc k m x M i) (md' := m_X9_coinIn) (As := [.int (nI (k - mnN i k))]) (rest := []) dX9_takeOff_111 ml_X9_205 mo_X9_coinIn ⟨Nat.le_of_ble_eq_true rfl, Nat.le_of_ble_eq_true rfl⟩ rfl ⟨_, _, rfl⟩ (Nat.le_of_ble_eq_true rfl) rfl rfl (Nat.le_of_ble_eq_true rfl) (by rw [show mGo c cc (mnN i k) m (SV M) = tkM c cc k m x i M from by rw [tkM, if_neg (fun q => q.2 c97)]]; exact v_X9_coinIn hc hcc (n := k - mnN i k) (m := m + mnN i k) (by omega) (by have := mn_le i k; omega) M _ (by unfold tkM; split <;> first | exact off_put (by omega) (off_go hc _ _ _ (off_self M)) | exact off_go hc _ _ _ (off_self M)) (by unfold tkM; split <;> first | exact WM_put (by omega) (WM_go hc _ _ _ (WM_SV hW)) | exact WM_go hc _ _ _ (WM_SV hW))) rfl ?_
          refine V.ist dX9_takeOff_114 (by decide) (L' := [(0, .ref 62), (1, .int (nI x)), (2, .int (nI k)), (3, .int b), (4, .int mo), (5, .int (nI i)), (6, .int (nI (mnN i k))), (7, .int (tkF c cc k m x M i))]) rfl rfl ?_
          refine V.iload dX9_takeOff_116 rfl rfl ?_
          refine V.iload dX9_takeOff_118 rfl rfl ?_
          refine V.icmp_le (tgt := 128) dX9_takeOff_120 rfl rfl (fun c120 => ?_) (fun c120 => ?_)
          · skip
            refine V.iload_n dX9_takeOff_128 rfl rfl rfl ?_
            refine V.ist_n dX9_takeOff_129 rfl (by decide) (L' := [(0, .ref 62), (1, .int (nI x)), (2, .int (nI k)), (3, .int b), (4, .int mo), (5, .int (nI i)), (6, .int (nI (mnN i k))), (7, .int (tkF c cc k m x M i))]) rfl rfl ?_
            refine V.iload dX9_takeOff_130 rfl rfl ?_
            refine V.iload dX9_takeOff_132 rfl rfl ?_
            refine V.icmp_le (tgt := 142) dX9_takeOff_134 rfl rfl (fun c134 => ?_) (fun c134 => absurd c134 (fun q => q c120))
            refine V.iload dX9_takeOff_142 rfl rfl ?_
            refine V.ist dX9_takeOff_144 (by decide) (L' := [(0, .ref 62), (1, .int (nI x)), (2, .int (nI k)), (3, .int b), (4, .int mo), (5, .int (nI i)), (6, .int (nI (mnN i k))), (7, .int (tkF c cc k m x M i))]) rfl rfl ?_
            refine V.inc (v := nI (i + 1)) dX9_takeOff_146 rfl (nI_1 _) (by decide) (L' := [(0, .ref 62), (1, .int (nI x)), (2, .int (nI k)), (3, .int b), (4, .int mo), (5, .int (nI (i + 1))), (6, .int (nI (mnN i k))), (7, .int (tkF c cc k m x M i))]) rfl rfl ?_
            refine V.goto (pc' := 57) dX9_takeOff_149 rfl ?_
            refine V.loc (L' := [(0, .ref 62), (1, .int (nI x)), (2, .int (nI k)), (3, .int b), (4, .int mo), (5, .int (nI (i + 1)))]) (fun zq zh => List.mem_append_left [(6, Value.int (nI (mnN i k))), (7, Value.int (tkF c cc k m x M i))] zh) ?_
            rw [show bestG (tkF c cc k m x M) nI (n + 1) i b mo = bestG (tkF c cc k m x M) nI n (i + 1) b mo from by simp only [bestG]; rw [if_neg (Int32.not_lt.mpr c120), if_neg (Int32.not_lt.mpr c120)]]
            exact ih (i + 1) _ _ (by omega)
          · skip
            refine V.iload dX9_takeOff_123 rfl rfl ?_
            refine V.goto (pc' := 129) dX9_takeOff_125 rfl ?_
            refine V.ist_n dX9_takeOff_129 rfl (by decide) (L' := [(0, .ref 62), (1, .int (nI x)), (2, .int (nI k)), (3, .int (nI i)), (4, .int mo), (5, .int (nI i)), (6, .int (nI (mnN i k))), (7, .int (tkF c cc k m x M i))]) rfl rfl ?_
            refine V.iload dX9_takeOff_130 rfl rfl ?_
            refine V.iload dX9_takeOff_132 rfl rfl ?_
            refine V.icmp_le (tgt := 142) dX9_takeOff_134 rfl rfl (fun c134 => absurd c134 c120) (fun c134 => ?_)
            refine V.iload dX9_takeOff_137 rfl rfl ?_
            refine V.goto (pc' := 144) dX9_takeOff_139 rfl ?_
            refine V.ist dX9_takeOff_144 (by decide) (L' := [(0, .ref 62), (1, .int (nI x)), (2, .int (nI k)), (3, .int (nI i)), (4, .int (tkF c cc k m x M i)), (5, .int (nI i)), (6, .int (nI (mnN i k))), (7, .int (tkF c cc k m x M i))]) rfl rfl ?_
            refine V.inc (v := nI (i + 1)) dX9_takeOff_146 rfl (nI_1 _) (by decide) (L' := [(0, .ref 62), (1, .int (nI x)), (2, .int (nI k)), (3, .int (nI i)), (4, .int (tkF c cc k m x M i)), (5, .int (nI (i + 1))), (6, .int (nI (mnN i k))), (7, .int (tkF c cc k m x M i))]) rfl rfl ?_
            refine V.goto (pc' := 57) dX9_takeOff_149 rfl ?_
            refine V.loc (L' := [(0, .ref 62), (1, .int (nI x)), (2, .int (nI k)), (3, .int (nI i)), (4, .int (tkF c cc k m x M i)), (5, .int (nI (i + 1)))]) (fun zq zh => List.mem_append_left [(6, Value.int (nI (mnN i k))), (7, Value.int (tkF c cc k m x M i))] zh) ?_
            rw [show bestG (tkF c cc k m x M) nI (n + 1) i b mo = bestG (tkF c cc k m x M) nI n (i + 1) (nI i) (tkF c cc k m x M i) from by simp only [bestG]; rw [if_pos (Int32.not_le.mp c120), if_pos (Int32.not_le.mp c120)]]
            exact ih (i + 1) _ _ (by omega)
        · skip
          refine V.aload_n dX9_takeOff_100 rfl rfl rfl ?_
          refine V.iload_n dX9_takeOff_101 rfl rfl rfl ?_
          refine V.iconst (v := 3) dX9_takeOff_102 rfl rfl ?_
          refine V.callv_v (M1 := mPutM x 3 (mGo c cc (mnN i k) m (SV M))) (md' := m_X9_putsAt) (As := [.int (nI x), .int 3]) (rest := []) dX9_takeOff_103 ml_X9_102 mo_X9_putsAt ⟨Nat.le_of_ble_eq_true rfl, Nat.le_of_ble_eq_true rfl⟩ rfl ⟨_, _, rfl⟩ (Nat.le_of_ble_eq_true rfl) rfl rfl (Nat.le_of_ble_eq_true rfl) (v_X9_putsAt (b := x) (by omega) 3 _) rfl ?_
          refine V.aload_n dX9_takeOff_106 rfl rfl rfl ?_
          refine V.iload_n dX9_takeOff_107 rfl rfl rfl ?_
          refine V.iload dX9_takeOff_108 rfl rfl ?_
          refine V.isub (v := nI (k - mnN i k)) dX9_takeOff_110 (pk_sub (mn_le i k)) rfl ?_
          refine V.callv_i (M1 := SV M) (v := tkF c cc k m x M i) (md' := m_X9_coinIn) (As := [.int (nI (k - mnN i k))]) (rest := []) dX9_takeOff_111 ml_X9_205 mo_X9_coinIn ⟨Nat.le_of_ble_eq_true rfl, Nat.le_of_ble_eq_true rfl⟩ rfl ⟨_, _, rfl⟩ (Nat.le_of_ble_eq_true rfl) rfl rfl (Nat.le_of_ble_eq_true rfl) (by rw [show mPutM x 3 (mGo c cc (mnN i k) m (SV M)) = tkM c cc k m x i M from by rw [tkM, if_pos ⟨by omega, c97⟩]]; exact v_X9_coinIn hc hcc (n := k - mnN i k) (m := m + mnN i k) (by omega) (by have := mn_le i k; omega) M _ (by unfold tkM; split <;> first | exact off_put (by omega) (off_go hc _ _ _ (off_self M)) | exact off_go hc _ _ _ (off_self M)) (by unfold tkM; split <;> first | exact WM_put (by omega) (WM_go hc _ _ _ (WM_SV hW)) | exact WM_go hc _ _ _ (WM_SV hW))) rfl ?_
          refine V.ist dX9_takeOff_114 (by decide) (L' := [(0, .ref 62), (1, .int (nI x)), (2, .int (nI k)), (3, .int b), (4, .int mo), (5, .int (nI i)), (6, .int (nI (mnN i k))), (7, .int (tkF c cc k m x M i))]) rfl rfl ?_
          refine V.iload dX9_takeOff_116 rfl rfl ?_
          refine V.iload dX9_takeOff_118 rfl rfl ?_
          refine V.icmp_le (tgt := 128) dX9_takeOff_120 rfl rfl (fun c120 => ?_) (fun c120 => ?_)
          · skip
            refine V.iload_n dX9_takeOff_128 rfl rfl rfl ?_
            refine V.ist_n dX9_takeOff_129 rfl (by decide) (L' := [(0, .ref 62), (1, .int (nI x)), (2, .int (nI k)), (3, .int b), (4, .int mo), (5, .int (nI i)), (6, .int (nI (mnN i k))), (7, .int (tkF c cc k m x M i))]) rfl rfl ?_
            refine V.iload dX9_takeOff_130 rfl rfl ?_
            refine V.iload dX9_takeOff_132 rfl rfl ?_
            refine V.icmp_le (tgt := 142) dX9_takeOff_134 rfl rfl (fun c134 => ?_) (fun c134 => absurd c134 (fun q => q c120))
            refine V.iload dX9_takeOff_142 rfl rfl ?_
            refine V.ist dX9_takeOff_144 (by decide) (L' := [(0, .ref 62), (1, .int (nI x)), (2, .int (nI k)), (3, .int b), (4, .int mo), (5, .int (nI i)), (6, .int (nI (mnN i k))), (7, .int (tkF c cc k m x M i))]) rfl rfl ?_
            refine V.inc (v := nI (i + 1)) dX9_takeOff_146 rfl (nI_1 _) (by decide) (L' := [(0, .ref 62), (1, .int (nI x)), (2, .int (nI k)), (3, .int b), (4, .int mo), (5, .int (nI (i + 1))), (6, .int (nI (mnN i k))), (7, .int (tkF c cc k m x M i))]) rfl rfl ?_
            refine V.goto (pc' := 57) dX9_takeOff_149 rfl ?_
            refine V.loc (L' := [(0, .ref 62), (1, .int (nI x)), (2, .int (nI k)), (3, .int b), (4, .int mo), (5, .int (nI (i + 1)))]) (fun zq zh => List.mem_append_left [(6, Value.int (nI (mnN i k))), (7, Value.int (tkF c cc k m x M i))] zh) ?_
            rw [show bestG (tkF c cc k m x M) nI (n + 1) i b mo = bestG (tkF c cc k m x M) nI n (i + 1) b mo from by simp only [bestG]; rw [if_neg (Int32.not_lt.mpr c120), if_neg (Int32.not_lt.mpr c120)]]
            exact ih (i + 1) _ _ (by omega)
          · skip
            refine V.iload dX9_takeOff_123 rfl rfl ?_
            refine V.goto (pc' := 129) dX9_takeOff_125 rfl ?_
            refine V.ist_n dX9_takeOff_129 rfl (by decide) (L' := [(0, .ref 62), (1, .int (nI x)), (2, .int (nI k)), (3, .int (nI i)), (4, .int mo), (5, .int (nI i)), (6, .int (nI (mnN i k))), (7, .int (tkF c cc k m x M i))]) rfl rfl ?_
            refine V.iload dX9_takeOff_130 rfl rfl ?_
            refine V.iload dX9_takeOff_132 rfl rfl ?_
            refine V.icmp_le (tgt := 142) dX9_takeOff_134 rfl rfl (fun c134 => absurd c134 c120) (fun c134 => ?_)
            refine V.iload dX9_takeOff_137 rfl rfl ?_
            refine V.goto (pc' := 144) dX9_takeOff_139 rfl ?_
            refine V.ist dX9_takeOff_144 (by decide) (L' := [(0, .ref 62), (1, .int (nI x)), (2, .int (nI k)), (3, .int (nI i)), (4, .int (tkF c cc k m x M i)), (5, .int (nI i)), (6, .int (nI (mnN i k))), (7, .int (tkF c cc k m x M i))]) rfl rfl ?_
            refine V.inc (v := nI (i + 1)) dX9_takeOff_146 rfl (nI_1 _) (by decide) (L' := [(0, .ref 62), (1, .int (nI x)), (2, .int (nI k)), (3, .int (nI i)), (4, .int (tkF c cc k m x M i)), (5, .int (nI (i + 1))), (6, .int (nI (mnN i k))), (7, .int (tkF c cc k m x M i))]) rfl rfl ?_
            refine V.goto (pc' := 57) dX9_takeOff_149 rfl ?_
            refine V.loc (L' := [(0, .ref 62), (1, .int (nI x)), (2, .int (nI k)), (3, .int (nI i)), (4, .int (tkF c cc k m x M i)), (5, .int (nI (i + 1)))]) (fun zq zh => List.mem_append_left [(6, Value.int (nI (mnN i k))), (7, Value.int (tkF c cc k m x M i))] zh) ?_
            rw [show bestG (tkF c cc k m x M) nI (n + 1) i b mo = bestG (tkF c cc k m x M) nI n (i + 1) (nI i) (tkF c cc k m x M i) from by simp only [bestG]; rw [if_pos (Int32.not_le.mp c120), if_pos (Int32.not_le.mp c120)]]
            exact ih (i + 1) _ _ (by omega)
    · have c67 : ¬ k ≤ i := fun zq => c67 ((nI_leI (a := k) (b := i) (by omega) (by omega)).mpr zq)
      refine V.iload dX9_takeOff_70 rfl rfl ?_
      refine V.goto (pc' := 76) dX9_takeOff_72 rfl ?_
      refine V.top (y := nI (mnN i k)) (by rw [mnN, if_pos (by omega)]) ?_
      refine V.ist dX9_takeOff_76 (by decide) (L' := [(0, .ref 62), (1, .int (nI x)), (2, .int (nI k)), (3, .int b), (4, .int mo), (5, .int (nI i)), (6, .int (nI (mnN i k)))]) rfl rfl ?_
      refine V.aload_n dX9_takeOff_78 rfl rfl rfl ?_
      refine V.iload dX9_takeOff_79 rfl rfl ?_
      refine V.callv_v (M1 := mGo c cc (mnN i k) m (SV M)) (md' := m_X9_minutesGo) (As := [.int (nI (mnN i k))]) (rest := []) dX9_takeOff_81 ml_X9_174 mo_X9_minutesGo ⟨Nat.le_of_ble_eq_true rfl, Nat.le_of_ble_eq_true rfl⟩ rfl ⟨_, _, rfl⟩ (Nat.le_of_ble_eq_true rfl) rfl rfl (Nat.le_of_ble_eq_true rfl) (v_X9_minutesGo hc hcc (by have := mn_le i k; omega) _ (WM_SV hW) (by have := mn_le i k; omega)) rfl ?_
      refine V.iload dX9_takeOff_84 rfl rfl ?_
      refine V.iload_n dX9_takeOff_86 rfl rfl rfl ?_
      refine V.icmp_ge (tgt := 106) dX9_takeOff_87 rfl rfl (fun c87 => ?_) (fun c87 => ?_)
      · have c87 : k ≤ i := (nI_leI (a := k) (b := i) (by omega) (by omega)).mp c87
        refine V.aload_n dX9_takeOff_106 rfl rfl rfl ?_
        refine V.iload_n dX9_takeOff_107 rfl rfl rfl ?_
        refine V.iload dX9_takeOff_108 rfl rfl ?_
        refine V.isub (v := nI (k - mnN i k)) dX9_takeOff_110 (pk_sub (mn_le i k)) rfl ?_
        refine V.callv_i (M1 := SV M) (v := tkF c cc k m x M i) (md' := m_X9_coinIn) (As := [.int (nI (k - mnN i k))]) (rest := []) dX9_takeOff_111 ml_X9_205 mo_X9_coinIn ⟨Nat.le_of_ble_eq_true rfl, Nat.le_of_ble_eq_true rfl⟩ rfl ⟨_, _, rfl⟩ (Nat.le_of_ble_eq_true rfl) rfl rfl (Nat.le_of_ble_eq_true rfl) (by rw [show mGo c cc (mnN i k) m (SV M) = tkM c cc k m x i M from by rw [tkM, if_neg (fun q => absurd q.1 (by omega))]]; exact v_X9_coinIn hc hcc (n := k - mnN i k) (m := m + mnN i k) (by omega) (by have := mn_le i k; omega) M _ (by unfold tkM; split <;> first | exact off_put (by omega) (off_go hc _ _ _ (off_self M)) | exact off_go hc _ _ _ (off_self M)) (by unfold tkM; split <;> first | exact WM_put (by omega) (WM_go hc _ _ _ (WM_SV hW)) | exact WM_go hc _ _ _ (WM_SV hW))) rfl ?_
        refine V.ist dX9_takeOff_114 (by decide) (L' := [(0, .ref 62), (1, .int (nI x)), (2, .int (nI k)), (3, .int b), (4, .int mo), (5, .int (nI i)), (6, .int (nI (mnN i k))), (7, .int (tkF c cc k m x M i))]) rfl rfl ?_
        refine V.iload dX9_takeOff_116 rfl rfl ?_
        refine V.iload dX9_takeOff_118 rfl rfl ?_
        refine V.icmp_le (tgt := 128) dX9_takeOff_120 rfl rfl (fun c120 => ?_) (fun c120 => ?_)
        · skip
          refine V.iload_n dX9_takeOff_128 rfl rfl rfl ?_
          refine V.ist_n dX9_takeOff_129 rfl (by decide) (L' := [(0, .ref 62), (1, .int (nI x)), (2, .int (nI k)), (3, .int b), (4, .int mo), (5, .int (nI i)), (6, .int (nI (mnN i k))), (7, .int (tkF c cc k m x M i))]) rfl rfl ?_
          refine V.iload dX9_takeOff_130 rfl rfl ?_
          refine V.iload dX9_takeOff_132 rfl rfl ?_
          refine V.icmp_le (tgt := 142) dX9_takeOff_134 rfl rfl (fun c134 => ?_) (fun c134 => absurd c134 (fun q => q c120))
          refine V.iload dX9_takeOff_142 rfl rfl ?_
          refine V.ist dX9_takeOff_144 (by decide) (L' := [(0, .ref 62), (1, .int (nI x)), (2, .int (nI k)), (3, .int b), (4, .int mo), (5, .int (nI i)), (6, .int (nI (mnN i k))), (7, .int (tkF c cc k m x M i))]) rfl rfl ?_
          refine V.inc (v := nI (i + 1)) dX9_takeOff_146 rfl (nI_1 _) (by decide) (L' := [(0, .ref 62), (1, .int (nI x)), (2, .int (nI k)), (3, .int b), (4, .int mo), (5, .int (nI (i + 1))), (6, .int (nI (mnN i k))), (7, .int (tkF c cc k m x M i))]) rfl rfl ?_
          refine V.goto (pc' := 57) dX9_takeOff_149 rfl ?_
          refine V.loc (L' := [(0, .ref 62), (1, .int (nI x)), (2, .int (nI k)), (3, .int b), (4, .int mo), (5, .int (nI (i + 1)))]) (fun zq zh => List.mem_append_left [(6, Value.int (nI (mnN i k))), (7, Value.int (tkF c cc k m x M i))] zh) ?_
          rw [show bestG (tkF c cc k m x M) nI (n + 1) i b mo = bestG (tkF c cc k m x M) nI n (i + 1) b mo from by simp only [bestG]; rw [if_neg (Int32.not_lt.mpr c120), if_neg (Int32.not_lt.mpr c120)]]
          exact ih (i + 1) _ _ (by omega)
        · skip
          refine V.iload dX9_takeOff_123 rfl rfl ?_
          refine V.goto (pc' := 129) dX9_takeOff_125 rfl ?_
          refine V.ist_n dX9_takeOff_129 rfl (by decide) (L' := [(0, .ref 62), (1, .int (nI x)), (2, .int (nI k)), (3, .int (nI i)), (4, .int mo), (5, .int (nI i)), (6, .int (nI (mnN i k))), (7, .int (tkF c cc k m x M i))]) rfl rfl ?_
          refine V.iload dX9_takeOff_130 rfl rfl ?_
          refine V.iload dX9_takeOff_132 rfl rfl ?_
          refine V.icmp_le (tgt := 142) dX9_takeOff_134 rfl rfl (fun c134 => absurd c134 c120) (fun c134 => ?_)
          refine V.iload dX9_takeOff_137 rfl rfl ?_
          refine V.goto (pc' := 144) dX9_takeOff_139 rfl ?_
          refine V.ist dX9_takeOff_144 (by decide) (L' := [(0, .ref 62), (1, .int (nI x)), (2, .int (nI k)), (3, .int (nI i)), (4, .int (tkF c cc k m x M i)), (5, .int (nI i)), (6, .int (nI (mnN i k))), (7, .int (tkF c cc k m x M i))]) rfl rfl ?_
          refine V.inc (v := nI (i + 1)) dX9_takeOff_146 rfl (nI_1 _) (by decide) (L' := [(0, .ref 62), (1, .int (nI x)), (2, .int (nI k)), (3, .int (nI i)), (4, .int (tkF c cc k m x M i)), (5, .int (nI (i + 1))), (6, .int (nI (mnN i k))), (7, .int (tkF c cc k m x M i))]) rfl rfl ?_
          refine V.goto (pc' := 57) dX9_takeOff_149 rfl ?_
          refine V.loc (L' := [(0, .ref 62), (1, .int (nI x)), (2, .int (nI k)), (3, .int (nI i)), (4, .int (tkF c cc k m x M i)), (5, .int (nI (i + 1)))]) (fun zq zh => List.mem_append_left [(6, Value.int (nI (mnN i k))), (7, Value.int (tkF c cc k m x M i))] zh) ?_
          rw [show bestG (tkF c cc k m x M) nI (n + 1) i b mo = bestG (tkF c cc k m x M) nI n (i + 1) (nI i) (tkF c cc k m x M i) from by simp only [bestG]; rw [if_pos (Int32.not_le.mp c120), if_pos (Int32.not_le.mp c120)]]
          exact ih (i + 1) _ _ (by omega)
      · have c87 : ¬ k ≤ i := fun zq => c87 ((nI_leI (a := k) (b := i) (by omega) (by omega)).mpr zq)
        refine V.aload_n dX9_takeOff_90 rfl rfl rfl ?_
        refine V.iload_n dX9_takeOff_91 rfl rfl rfl ?_
        refine V.iconst (v := 4) dX9_takeOff_92 rfl rfl ?_
        refine V.callv_i (M1 := mGo c cc (mnN i k) m (SV M)) (v := (mGo c cc (mnN i k) m (SV M)) 63 (20 + 5 * x + 4)) (md' := m_X9_its) (As := [.int (nI x), .int 4]) (rest := []) dX9_takeOff_93 ml_X9_60 mo_X9_its ⟨Nat.le_of_ble_eq_true rfl, Nat.le_of_ble_eq_true rfl⟩ rfl ⟨_, _, rfl⟩ (Nat.le_of_ble_eq_true rfl) rfl rfl (Nat.le_of_ble_eq_true rfl) (v_X9_its (b := x) (w := 4) (by omega) (by omega) _) rfl ?_
        refine V.iconst (v := 4) dX9_takeOff_96 rfl rfl ?_
        refine V.icmp_eq (tgt := 106) dX9_takeOff_97 rfl rfl (fun c97 => ?_) (fun c97 => ?_)
        · skip
          refine V.aload_n dX9_takeOff_106 rfl rfl rfl ?_
          refine V.iload_n dX9_takeOff_107 rfl rfl rfl ?_
          refine V.iload dX9_takeOff_108 rfl rfl ?_
          refine V.isub (v := nI (k - mnN i k)) dX9_takeOff_110 (pk_sub (mn_le i k)) rfl ?_
          refine V.callv_i (M1 := SV M) (v := tkF c cc k m x M i) (md' := m_X9_coinIn) (As := [.int (nI (k - mnN i k))]) (rest := []) dX9_takeOff_111 ml_X9_205 mo_X9_coinIn ⟨Nat.le_of_ble_eq_true rfl, Nat.le_of_ble_eq_true rfl⟩ rfl ⟨_, _, rfl⟩ (Nat.le_of_ble_eq_true rfl) rfl rfl (Nat.le_of_ble_eq_true rfl) (by rw [show mGo c cc (mnN i k) m (SV M) = tkM c cc k m x i M from by rw [tkM, if_neg (fun q => q.2 c97)]]; exact v_X9_coinIn hc hcc (n := k - mnN i k) (m := m + mnN i k) (by omega) (by have := mn_le i k; omega) M _ (by unfold tkM; split <;> first | exact off_put (by omega) (off_go hc _ _ _ (off_self M)) | exact off_go hc _ _ _ (off_self M)) (by unfold tkM; split <;> first | exact WM_put (by omega) (WM_go hc _ _ _ (WM_SV hW)) | exact WM_go hc _ _ _ (WM_SV hW))) rfl ?_
          refine V.ist dX9_takeOff_114 (by decide) (L' := [(0, .ref 62), (1, .int (nI x)), (2, .int (nI k)), (3, .int b), (4, .int mo), (5, .int (nI i)), (6, .int (nI (mnN i k))), (7, .int (tkF c cc k m x M i))]) rfl rfl ?_
          refine V.iload dX9_takeOff_116 rfl rfl ?_
          refine V.iload dX9_takeOff_118 rfl rfl ?_
          refine V.icmp_le (tgt := 128) dX9_takeOff_120 rfl rfl (fun c120 => ?_) (fun c120 => ?_)
          · skip
            refine V.iload_n dX9_takeOff_128 rfl rfl rfl ?_
            refine V.ist_n dX9_takeOff_129 rfl (by decide) (L' := [(0, .ref 62), (1, .int (nI x)), (2, .int (nI k)), (3, .int b), (4, .int mo), (5, .int (nI i)), (6, .int (nI (mnN i k))), (7, .int (tkF c cc k m x M i))]) rfl rfl ?_
            refine V.iload dX9_takeOff_130 rfl rfl ?_
            refine V.iload dX9_takeOff_132 rfl rfl ?_
            refine V.icmp_le (tgt := 142) dX9_takeOff_134 rfl rfl (fun c134 => ?_) (fun c134 => absurd c134 (fun q => q c120))
            refine V.iload dX9_takeOff_142 rfl rfl ?_
            refine V.ist dX9_takeOff_144 (by decide) (L' := [(0, .ref 62), (1, .int (nI x)), (2, .int (nI k)), (3, .int b), (4, .int mo), (5, .int (nI i)), (6, .int (nI (mnN i k))), (7, .int (tkF c cc k m x M i))]) rfl rfl ?_
            refine V.inc (v := nI (i + 1)) dX9_takeOff_146 rfl (nI_1 _) (by decide) (L' := [(0, .ref 62), (1, .int (nI x)), (2, .int (nI k)), (3, .int b), (4, .int mo), (5, .int (nI (i + 1))), (6, .int (nI (mnN i k))), (7, .int (tkF c cc k m x M i))]) rfl rfl ?_
            refine V.goto (pc' := 57) dX9_takeOff_149 rfl ?_
            refine V.loc (L' := [(0, .ref 62), (1, .int (nI x)), (2, .int (nI k)), (3, .int b), (4, .int mo), (5, .int (nI (i + 1)))]) (fun zq zh => List.mem_append_left [(6, Value.int (nI (mnN i k))), (7, Value.int (tkF c cc k m x M i))] zh) ?_
            rw [show bestG (tkF c cc k m x M) nI (n + 1) i b mo = bestG (tkF c cc k m x M) nI n (i + 1) b mo from by simp only [bestG]; rw [if_neg (Int32.not_lt.mpr c120), if_neg (Int32.not_lt.mpr c120)]]
            exact ih (i + 1) _ _ (by omega)
          · skip
            refine V.iload dX9_takeOff_123 rfl rfl ?_
            refine V.goto (pc' := 129) dX9_takeOff_125 rfl ?_
            refine V.ist_n dX9_takeOff_129 rfl (by decide) (L' := [(0, .ref 62), (1, .int (nI x)), (2, .int (nI k)), (3, .int (nI i)), (4, .int mo), (5, .int (nI i)), (6, .int (nI (mnN i k))), (7, .int (tkF c cc k m x M i))]) rfl rfl ?_
            refine V.iload dX9_takeOff_130 rfl rfl ?_
            refine V.iload dX9_takeOff_132 rfl rfl ?_
            refine V.icmp_le (tgt := 142) dX9_takeOff_134 rfl rfl (fun c134 => absurd c134 c120) (fun c134 => ?_)
            refine V.iload dX9_takeOff_137 rfl rfl ?_
            refine V.goto (pc' := 144) dX9_takeOff_139 rfl ?_
            refine V.ist dX9_takeOff_144 (by decide) (L' := [(0, .ref 62), (1, .int (nI x)), (2, .int (nI k)), (3, .int (nI i)), (4, .int (tkF c cc k m x M i)), (5, .int (nI i)), (6, .int (nI (mnN i k))), (7, .int (tkF c cc k m x M i))]) rfl rfl ?_
            refine V.inc (v := nI (i + 1)) dX9_takeOff_146 rfl (nI_1 _) (by decide) (L' := [(0, .ref 62), (1, .int (nI x)), (2, .int (nI k)), (3, .int (nI i)), (4, .int (tkF c cc k m x M i)), (5, .int (nI (i + 1))), (6, .int (nI (mnN i k))), (7, .int (tkF c cc k m x M i))]) rfl rfl ?_
            refine V.goto (pc' := 57) dX9_takeOff_149 rfl ?_
            refine V.loc (L' := [(0, .ref 62), (1, .int (nI x)), (2, .int (nI k)), (3, .int (nI i)), (4, .int (tkF c cc k m x M i)), (5, .int (nI (i + 1)))]) (fun zq zh => List.mem_append_left [(6, Value.int (nI (mnN i k))), (7, Value.int (tkF c cc k m x M i))] zh) ?_
            rw [show bestG (tkF c cc k m x M) nI (n + 1) i b mo = bestG (tkF c cc k m x M) nI n (i + 1) (nI i) (tkF c cc k m x M i) from by simp only [bestG]; rw [if_pos (Int32.not_le.mp c120), if_pos (Int32.not_le.mp c120)]]
            exact ih (i + 1) _ _ (by omega)
        · skip
          refine V.aload_n dX9_takeOff_100 rfl rfl rfl ?_
          refine V.iload_n dX9_takeOff_101 rfl rfl rfl ?_
          refine V.iconst (v := 3) dX9_takeOff_102 rfl rfl ?_
          refine V.callv_v (M1 := mPutM x 3 (mGo c cc (mnN i k) m (SV M))) (md' := m_X9_putsAt) (As := [.int (nI x), .int 3]) (rest := []) dX9_takeOff_103 ml_X9_102 mo_X9_putsAt ⟨Nat.le_of_ble_eq_true rfl, Nat.le_of_ble_eq_true rfl⟩ rfl ⟨_, _, rfl⟩ (Nat.le_of_ble_eq_true rfl) rfl rfl (Nat.le_of_ble_eq_true rfl) (v_X9_putsAt (b := x) (by omega) 3 _) rfl ?_
          refine V.aload_n dX9_takeOff_106 rfl rfl rfl ?_
          refine V.iload_n dX9_takeOff_107 rfl rfl rfl ?_
          refine V.iload dX9_takeOff_108 rfl rfl ?_
          refine V.isub (v := nI (k - mnN i k)) dX9_takeOff_110 (pk_sub (mn_le i k)) rfl ?_
          refine V.callv_i (M1 := SV M) (v := tkF c cc k m x M i) (md' := m_X9_coinIn) (As := [.int (nI (k - mnN i k))]) (rest := []) dX9_takeOff_111 ml_X9_205 mo_X9_coinIn ⟨Nat.le_of_ble_eq_true rfl, Nat.le_of_ble_eq_true rfl⟩ rfl ⟨_, _, rfl⟩ (Nat.le_of_ble_eq_true rfl) rfl rfl (Nat.le_of_ble_eq_true rfl) (by rw [show mPutM x 3 (mGo c cc (mnN i k) m (SV M)) = tkM c cc k m x i M from by rw [tkM, if_pos ⟨by omega, c97⟩]]; exact v_X9_coinIn hc hcc (n := k - mnN i k) (m := m + mnN i k) (by omega) (by have := mn_le i k; omega) M _ (by unfold tkM; split <;> first | exact off_put (by omega) (off_go hc _ _ _ (off_self M)) | exact off_go hc _ _ _ (off_self M)) (by unfold tkM; split <;> first | exact WM_put (by omega) (WM_go hc _ _ _ (WM_SV hW)) | exact WM_go hc _ _ _ (WM_SV hW))) rfl ?_
          refine V.ist dX9_takeOff_114 (by decide) (L' := [(0, .ref 62), (1, .int (nI x)), (2, .int (nI k)), (3, .int b), (4, .int mo), (5, .int (nI i)), (6, .int (nI (mnN i k))), (7, .int (tkF c cc k m x M i))]) rfl rfl ?_
          refine V.iload dX9_takeOff_116 rfl rfl ?_
          refine V.iload dX9_takeOff_118 rfl rfl ?_
          refine V.icmp_le (tgt := 128) dX9_takeOff_120 rfl rfl (fun c120 => ?_) (fun c120 => ?_)
          · skip
            refine V.iload_n dX9_takeOff_128 rfl rfl rfl ?_
            refine V.ist_n dX9_takeOff_129 rfl (by decide) (L' := [(0, .ref 62), (1, .int (nI x)), (2, .int (nI k)), (3, .int b), (4, .int mo), (5, .int (nI i)), (6, .int (nI (mnN i k))), (7, .int (tkF c cc k m x M i))]) rfl rfl ?_
            refine V.iload dX9_takeOff_130 rfl rfl ?_
            refine V.iload dX9_takeOff_132 rfl rfl ?_
            refine V.icmp_le (tgt := 142) dX9_takeOff_134 rfl rfl (fun c134 => ?_) (fun c134 => absurd c134 (fun q => q c120))
            refine V.iload dX9_takeOff_142 rfl rfl ?_
            refine V.ist dX9_takeOff_144 (by decide) (L' := [(0, .ref 62), (1, .int (nI x)), (2, .int (nI k)), (3, .int b), (4, .int mo), (5, .int (nI i)), (6, .int (nI (mnN i k))), (7, .int (tkF c cc k m x M i))]) rfl rfl ?_
            refine V.inc (v := nI (i + 1)) dX9_takeOff_146 rfl (nI_1 _) (by decide) (L' := [(0, .ref 62), (1, .int (nI x)), (2, .int (nI k)), (3, .int b), (4, .int mo), (5, .int (nI (i + 1))), (6, .int (nI (mnN i k))), (7, .int (tkF c cc k m x M i))]) rfl rfl ?_
            refine V.goto (pc' := 57) dX9_takeOff_149 rfl ?_
            refine V.loc (L' := [(0, .ref 62), (1, .int (nI x)), (2, .int (nI k)), (3, .int b), (4, .int mo), (5, .int (nI (i + 1)))]) (fun zq zh => List.mem_append_left [(6, Value.int (nI (mnN i k))), (7, Value.int (tkF c cc k m x M i))] zh) ?_
            rw [show bestG (tkF c cc k m x M) nI (n + 1) i b mo = bestG (tkF c cc k m x M) nI n (i + 1) b mo from by simp only [bestG]; rw [if_neg (Int32.not_lt.mpr c120), if_neg (Int32.not_lt.mpr c120)]]
            exact ih (i + 1) _ _ (by omega)
          · skip
            refine V.iload dX9_takeOff_123 rfl rfl ?_
            refine V.goto (pc' := 129) dX9_takeOff_125 rfl ?_
            refine V.ist_n dX9_takeOff_129 rfl (by decide) (L' := [(0, .ref 62), (1, .int (nI x)), (2, .int (nI k)), (3, .int (nI i)), (4, .int mo), (5, .int (nI i)), (6, .int (nI (mnN i k))), (7, .int (tkF c cc k m x M i))]) rfl rfl ?_
            refine V.iload dX9_takeOff_130 rfl rfl ?_
            refine V.iload dX9_takeOff_132 rfl rfl ?_
            refine V.icmp_le (tgt := 142) dX9_takeOff_134 rfl rfl (fun c134 => absurd c134 c120) (fun c134 => ?_)
            refine V.iload dX9_takeOff_137 rfl rfl ?_
            refine V.goto (pc' := 144) dX9_takeOff_139 rfl ?_
            refine V.ist dX9_takeOff_144 (by decide) (L' := [(0, .ref 62), (1, .int (nI x)), (2, .int (nI k)), (3, .int (nI i)), (4, .int (tkF c cc k m x M i)), (5, .int (nI i)), (6, .int (nI (mnN i k))), (7, .int (tkF c cc k m x M i))]) rfl rfl ?_
            refine V.inc (v := nI (i + 1)) dX9_takeOff_146 rfl (nI_1 _) (by decide) (L' := [(0, .ref 62), (1, .int (nI x)), (2, .int (nI k)), (3, .int (nI i)), (4, .int (tkF c cc k m x M i)), (5, .int (nI (i + 1))), (6, .int (nI (mnN i k))), (7, .int (tkF c cc k m x M i))]) rfl rfl ?_
            refine V.goto (pc' := 57) dX9_takeOff_149 rfl ?_
            refine V.loc (L' := [(0, .ref 62), (1, .int (nI x)), (2, .int (nI k)), (3, .int (nI i)), (4, .int (tkF c cc k m x M i)), (5, .int (nI (i + 1)))]) (fun zq zh => List.mem_append_left [(6, Value.int (nI (mnN i k))), (7, Value.int (tkF c cc k m x M i))] zh) ?_
            rw [show bestG (tkF c cc k m x M) nI (n + 1) i b mo = bestG (tkF c cc k m x M) nI n (i + 1) (nI i) (tkF c cc k m x M i) from by simp only [bestG]; rw [if_pos (Int32.not_le.mp c120), if_pos (Int32.not_le.mp c120)]]
            exact ih (i + 1) _ _ (by omega)
def pTakeOff (c cc m : Nat) (x n : Int32) (M : Mem) : Int32 × Mem := if ¬ (isB c x ∧ rng 1 120 n) then (-1000001, fdM 0 M) else if ¬ (M 63 (20 + 5 * x.toNatClampNeg + 4) = 1 ∨ M 63 (20 + 5 * x.toNatClampNeg + 4) = 2) ∨ 999 < m + n.toNatClampNeg then (-1000005, fdM 4 M) else (bestG (tkF c cc n.toNatClampNeg m x.toNatClampNeg M) nI 61 0 0 (-1), SV M)
theorem v_X9_takeOff {c : Nat} (hc : c ≤ 10) {cc : Nat} (hcc : cc ≤ 12) {m : Nat} (hm : m ≤ 3000) (x n : Int32) (M : Mem) (hM : M 63 1 = nI c) (h2 : M 63 2 = nI cc) (h0 : M 63 0 = nI m) (hW : WM c cc m M) : V m_X9_takeOff 0 [(0, .ref 62), (1, .int x), (2, .int n)] [] M (RT (some (.int ((pTakeOff c cc m x n M).1))) ((pTakeOff c cc m x n M).2)) := by
  refine V.aload_n dX9_takeOff_0 rfl rfl rfl ?_
  refine V.iload_n dX9_takeOff_1 rfl rfl rfl ?_
  refine V.callv_i (M1 := M) (v := if isB c x then 1 else 0) (md' := m_X9_isBatch) (As := [.int x]) (rest := []) dX9_takeOff_2 ml_X9_66 mo_X9_isBatch ⟨Nat.le_of_ble_eq_true rfl, Nat.le_of_ble_eq_true rfl⟩ rfl ⟨_, _, rfl⟩ (Nat.le_of_ble_eq_true rfl) rfl rfl (Nat.le_of_ble_eq_true rfl) (v_X9_isBatch hc x M hM) rfl ?_
  refine V.ifb_eq (tgt := 15) dX9_takeOff_5 rfl rfl (fun c5 => ?_) (fun c5 => ?_)
  · skip
    refine V.aload_n dX9_takeOff_15 rfl rfl rfl ?_
    refine V.ldc (v := -1000001) dX9_takeOff_16 cn_X9_37 rfl ?_
    refine V.callv_i (M1 := fdM 0 M) (v := -1000001) (md' := m_X9_finds) (As := [.int (-1000001)]) (rest := []) dX9_takeOff_18 ml_X9_51 mo_X9_finds ⟨Nat.le_of_ble_eq_true rfl, Nat.le_of_ble_eq_true rfl⟩ rfl ⟨_, _, rfl⟩ (Nat.le_of_ble_eq_true rfl) rfl rfl (Nat.le_of_ble_eq_true rfl) (v_X9_finds (w := 0) (by decide) (-1000001) (by decide +kernel) _) rfl ?_
    exact V.ret dX9_takeOff_21 rfl rfl ⟨(by first | (simp (decide := true) [pTakeOff, c5]; done) | (simp (decide := true) [pTakeOff, c5]; done) | (simp (decide := true) [pTakeOff, c5]; done) | (simp_all (decide := true) [pTakeOff]; done) | (simp_all (decide := true) [pTakeOff, ltF, leF]; done)), (by first | (simp (decide := true) [pTakeOff, c5]; done) | (simp (decide := true) [pTakeOff, c5]; done) | (simp (decide := true) [pTakeOff, c5]; done) | (simp_all (decide := true) [pTakeOff]; done) | (simp_all (decide := true) [pTakeOff, ltF, leF]; done))⟩
  · skip
    refine V.iload_n dX9_takeOff_8 rfl rfl rfl ?_
    refine V.calls_i (M1 := M) (v := if rng 1 120 n then 1 else 0) (md' := m_X9_isSpan) (As := [.int n]) (rest := []) dX9_takeOff_9 ml_X9_199 mo_X9_isSpan ⟨Nat.le_of_ble_eq_true rfl, Nat.le_of_ble_eq_true rfl⟩ (Nat.le_of_ble_eq_true rfl) rfl rfl (Nat.le_of_ble_eq_true rfl) (v_X9_isSpan n _) rfl ?_
    refine V.ifb_ne (tgt := 22) dX9_takeOff_12 rfl rfl (fun c12 => ?_) (fun c12 => ?_)
    · skip
      obtain ⟨b, hb, rfl⟩ := of_isB c5
      · have eb : (nI b).toNatClampNeg = b := nI_clamp (by omega)
        obtain ⟨k, hk, rfl⟩ := of_rng1 (b := 120) c12
        have ek : (nI k).toNatClampNeg = k := nI_clamp (by omega)
        refine V.aload_n dX9_takeOff_22 rfl rfl rfl ?_
        refine V.iload_n dX9_takeOff_23 rfl rfl rfl ?_
        refine V.callv_i (M1 := M) (v := if M 63 (20 + 5 * b + 4) = 1 ∨ M 63 (20 + 5 * b + 4) = 2 then 1 else 0) (md' := m_X9_isRoasting) (As := [.int (nI b)]) (rest := []) dX9_takeOff_24 ml_X9_202 mo_X9_isRoasting ⟨Nat.le_of_ble_eq_true rfl, Nat.le_of_ble_eq_true rfl⟩ rfl ⟨_, _, rfl⟩ (Nat.le_of_ble_eq_true rfl) rfl rfl (Nat.le_of_ble_eq_true rfl) (v_X9_isRoasting (b := b) (by omega) _) rfl ?_
        refine V.ifb_eq (tgt := 38) dX9_takeOff_27 rfl rfl (fun c27 => ?_) (fun c27 => ?_)
        · skip
          refine V.aload_n dX9_takeOff_38 rfl rfl rfl ?_
          refine V.ldc (v := -1000005) dX9_takeOff_39 cn_X9_98 rfl ?_
          refine V.callv_i (M1 := fdM 4 M) (v := -1000005) (md' := m_X9_finds) (As := [.int (-1000005)]) (rest := []) dX9_takeOff_41 ml_X9_51 mo_X9_finds ⟨Nat.le_of_ble_eq_true rfl, Nat.le_of_ble_eq_true rfl⟩ rfl ⟨_, _, rfl⟩ (Nat.le_of_ble_eq_true rfl) rfl rfl (Nat.le_of_ble_eq_true rfl) (v_X9_finds (w := 4) (by decide) (-1000005) (by decide +kernel) _) rfl ?_
          exact V.ret dX9_takeOff_44 rfl rfl ⟨(by first | (simp (decide := true) [pTakeOff, c5, c12, eb, ek, c27]; done) | (simp (decide := true) [pTakeOff, c5, c12, eb, ek, c27]; done) | (simp (decide := true) [pTakeOff, c5, c12, eb, ek, c27]; done) | (simp_all (decide := true) [pTakeOff]; done) | (simp_all (decide := true) [pTakeOff, ltF, leF]; done)), (by first | (simp (decide := true) [pTakeOff, c5, c12, eb, ek, c27]; done) | (simp (decide := true) [pTakeOff, c5, c12, eb, ek, c27]; done) | (simp (decide := true) [pTakeOff, c5, c12, eb, ek, c27]; done) | (simp_all (decide := true) [pTakeOff]; done) | (simp_all (decide := true) [pTakeOff, ltF, leF]; done))⟩
        · skip
          refine V.aload_n dX9_takeOff_30 rfl rfl rfl ?_
          refine V.iload_n dX9_takeOff_31 rfl rfl rfl ?_
          refine V.callv_i (M1 := M) (v := if 999 < m + k then 1 else 0) (md' := m_X9_isTooLate) (As := [.int (nI k)]) (rest := []) dX9_takeOff_32 ml_X9_171 mo_X9_isTooLate ⟨Nat.le_of_ble_eq_true rfl, Nat.le_of_ble_eq_true rfl⟩ rfl ⟨_, _, rfl⟩ (Nat.le_of_ble_eq_true rfl) rfl rfl (Nat.le_of_ble_eq_true rfl) (v_X9_isTooLate (by omega) (by omega) M h0) rfl ?_
          refine V.ifb_eq (tgt := 45) dX9_takeOff_35 rfl rfl (fun c35 => ?_) (fun c35 => ?_)
          · skip
            refine V.aload_n dX9_takeOff_45 rfl rfl rfl ?_
            refine V.callv_v (M1 := SV M) (md' := m_X9_saves) (As := []) (rest := []) dX9_takeOff_46 ml_X9_179 mo_X9_saves ⟨Nat.le_of_ble_eq_true rfl, Nat.le_of_ble_eq_true rfl⟩ rfl ⟨_, _, rfl⟩ (Nat.le_of_ble_eq_true rfl) rfl rfl (Nat.le_of_ble_eq_true rfl) (v_X9_saves M) rfl ?_
            refine V.iconst (v := 0) dX9_takeOff_49 rfl rfl ?_
            refine V.ist_n dX9_takeOff_50 rfl (by decide) (L' := [(0, .ref 62), (1, .int (nI b)), (2, .int (nI k)), (3, .int 0)]) rfl rfl ?_
            refine V.iconst (v := -1) dX9_takeOff_51 rfl rfl ?_
            refine V.ist dX9_takeOff_52 (by decide) (L' := [(0, .ref 62), (1, .int (nI b)), (2, .int (nI k)), (3, .int 0), (4, .int (-1))]) rfl rfl ?_
            refine V.iconst (v := 0) dX9_takeOff_54 rfl rfl ?_
            refine V.ist dX9_takeOff_55 (by decide) (L' := [(0, .ref 62), (1, .int (nI b)), (2, .int (nI k)), (3, .int 0), (4, .int (-1)), (5, .int 0)]) rfl rfl ?_
            have hp : pTakeOff c cc m (nI b) (nI k) M = (bestG (tkF c cc k m b M) nI 61 0 0 (-1), SV M) := by simp only [pTakeOff, eb, ek]; rw [if_neg (fun q => q ⟨c5, c12⟩), if_neg (fun q => q.elim (fun z => z c27) c35)]
            rw [hp]
            exact l_X9_takeOff hc hcc (by omega) hm M hb hW 61 0 0 (-1) (by omega)
          · skip
            refine V.aload_n dX9_takeOff_38 rfl rfl rfl ?_
            refine V.ldc (v := -1000005) dX9_takeOff_39 cn_X9_98 rfl ?_
            refine V.callv_i (M1 := fdM 4 M) (v := -1000005) (md' := m_X9_finds) (As := [.int (-1000005)]) (rest := []) dX9_takeOff_41 ml_X9_51 mo_X9_finds ⟨Nat.le_of_ble_eq_true rfl, Nat.le_of_ble_eq_true rfl⟩ rfl ⟨_, _, rfl⟩ (Nat.le_of_ble_eq_true rfl) rfl rfl (Nat.le_of_ble_eq_true rfl) (v_X9_finds (w := 4) (by decide) (-1000005) (by decide +kernel) _) rfl ?_
            exact V.ret dX9_takeOff_44 rfl rfl ⟨(by first | (simp (decide := true) [pTakeOff, c5, c12, eb, ek, c27, c35]; done) | (simp (decide := true) [pTakeOff, c5, c12, eb, ek, c27, c35]; done) | (simp (decide := true) [pTakeOff, c5, c12, eb, ek, c27, c35]; done) | (simp_all (decide := true) [pTakeOff]; done) | (simp_all (decide := true) [pTakeOff, ltF, leF]; done)), (by first | (simp (decide := true) [pTakeOff, c5, c12, eb, ek, c27, c35]; done) | (simp (decide := true) [pTakeOff, c5, c12, eb, ek, c27, c35]; done) | (simp (decide := true) [pTakeOff, c5, c12, eb, ek, c27, c35]; done) | (simp_all (decide := true) [pTakeOff]; done) | (simp_all (decide := true) [pTakeOff, ltF, leF]; done))⟩
    · skip
      refine V.aload_n dX9_takeOff_15 rfl rfl rfl ?_
      refine V.ldc (v := -1000001) dX9_takeOff_16 cn_X9_37 rfl ?_
      refine V.callv_i (M1 := fdM 0 M) (v := -1000001) (md' := m_X9_finds) (As := [.int (-1000001)]) (rest := []) dX9_takeOff_18 ml_X9_51 mo_X9_finds ⟨Nat.le_of_ble_eq_true rfl, Nat.le_of_ble_eq_true rfl⟩ rfl ⟨_, _, rfl⟩ (Nat.le_of_ble_eq_true rfl) rfl rfl (Nat.le_of_ble_eq_true rfl) (v_X9_finds (w := 0) (by decide) (-1000001) (by decide +kernel) _) rfl ?_
      exact V.ret dX9_takeOff_21 rfl rfl ⟨(by first | (simp (decide := true) [pTakeOff, c5, c12]; done) | (simp (decide := true) [pTakeOff, c5, c12]; done) | (simp (decide := true) [pTakeOff, c5, c12]; done) | (simp_all (decide := true) [pTakeOff]; done) | (simp_all (decide := true) [pTakeOff, ltF, leF]; done)), (by first | (simp (decide := true) [pTakeOff, c5, c12]; done) | (simp (decide := true) [pTakeOff, c5, c12]; done) | (simp (decide := true) [pTakeOff, c5, c12]; done) | (simp_all (decide := true) [pTakeOff]; done) | (simp_all (decide := true) [pTakeOff, ltF, leF]; done))⟩
def brF (c cc k m : Nat) (M : Mem) (i : Nat) : Int32 := cnF c cc k m (SV M) M - cnF c cc k m (ms (SV M) 63 (70 + 3 * i + 2) 0) M
theorem v_X9_bringsIn {c : Nat} (hc : c ≤ 10) {cc : Nat} (hcc : cc ≤ 12) {k m : Nat} (hk : k ≤ 120) (hm : m ≤ 3000) (M : Mem) {i : Nat} (hi : i < cc) (hW : WM c cc m M) (hW2 : WM c cc m (ms (SV M) 63 (70 + 3 * i + 2) 0)) : V m_X9_bringsIn 0 [(0, .ref 62), (1, .int (nI i)), (2, .int (nI k))] [] M (RT (some (.int (brF c cc k m M i))) (SV M)) := by
  refine V.aload_n dX9_bringsIn_0 rfl rfl rfl ?_
  refine V.callv_v (M1 := SV M) (md' := m_X9_saves) (As := []) (rest := []) dX9_bringsIn_1 ml_X9_179 mo_X9_saves ⟨Nat.le_of_ble_eq_true rfl, Nat.le_of_ble_eq_true rfl⟩ rfl ⟨_, _, rfl⟩ (Nat.le_of_ble_eq_true rfl) rfl rfl (Nat.le_of_ble_eq_true rfl) (v_X9_saves M) rfl ?_
  refine V.aload_n dX9_bringsIn_4 rfl rfl rfl ?_
  refine V.iload_n dX9_bringsIn_5 rfl rfl rfl ?_
  refine V.callv_i (M1 := SV M) (v := cnF c cc k m (SV M) M) (md' := m_X9_coinIn) (As := [.int (nI k)]) (rest := []) dX9_bringsIn_6 ml_X9_205 mo_X9_coinIn ⟨Nat.le_of_ble_eq_true rfl, Nat.le_of_ble_eq_true rfl⟩ rfl ⟨_, _, rfl⟩ (Nat.le_of_ble_eq_true rfl) rfl rfl (Nat.le_of_ble_eq_true rfl) (v_X9_coinIn hc hcc (n := k) (m := m) (by omega) (by omega) M _ (off_self M) (WM_SV hW)) rfl ?_
  refine V.ist_n dX9_bringsIn_9 rfl (by decide) (L' := [(0, .ref 62), (1, .int (nI i)), (2, .int (nI k)), (3, .int (cnF c cc k m (SV M) M))]) rfl rfl ?_
  refine V.aload_n dX9_bringsIn_10 rfl rfl rfl ?_
  refine V.getr dX9_bringsIn_11 fg_X9_7 rfl rfl rfl ?_
  refine V.iload_n dX9_bringsIn_14 rfl rfl rfl ?_
  refine V.iconst (v := 2) dX9_bringsIn_15 rfl rfl ?_
  refine V.calls_i (M1 := SV M) (v := nI (70 + 3 * i + 2)) (md' := m_X9_who) (As := [.int (nI i), .int 2]) (rest := [.ref 63]) dX9_bringsIn_16 ml_X9_134 mo_X9_who ⟨Nat.le_of_ble_eq_true rfl, Nat.le_of_ble_eq_true rfl⟩ (Nat.le_of_ble_eq_true rfl) rfl rfl (Nat.le_of_ble_eq_true rfl) (v_X9_who i 2 _) rfl ?_
  refine V.iconst (v := 0) dX9_bringsIn_19 rfl rfl ?_
  refine V.iastN (j := 70 + 3 * i + 2) dX9_bringsIn_20 rfl (by omega) (by decide) rfl (M' := (ms (SV M) 63 (70 + 3 * i + 2) 0)) rfl rfl ?_
  refine V.iload_n dX9_bringsIn_21 rfl rfl rfl ?_
  refine V.aload_n dX9_bringsIn_22 rfl rfl rfl ?_
  refine V.iload_n dX9_bringsIn_23 rfl rfl rfl ?_
  refine V.callv_i (M1 := SV M) (v := cnF c cc k m (ms (SV M) 63 (70 + 3 * i + 2) 0) M) (md' := m_X9_coinIn) (As := [.int (nI k)]) (rest := [.int (cnF c cc k m (SV M) M)]) dX9_bringsIn_24 ml_X9_205 mo_X9_coinIn ⟨Nat.le_of_ble_eq_true rfl, Nat.le_of_ble_eq_true rfl⟩ rfl ⟨_, _, rfl⟩ (Nat.le_of_ble_eq_true rfl) rfl rfl (Nat.le_of_ble_eq_true rfl) (v_X9_coinIn hc hcc (n := k) (m := m) (by omega) (by omega) M _ (off_ms (by omega) (off_self M)) hW2) rfl ?_
  refine V.isub (v := (cnF c cc k m (SV M) M) - (cnF c cc k m (ms (SV M) 63 (70 + 3 * i + 2) 0) M)) dX9_bringsIn_27 rfl rfl ?_
  exact V.ret dX9_bringsIn_28 rfl rfl ⟨rfl, rfl⟩
def pBrings (c cc m : Nat) (x n : Int32) (M : Mem) : Int32 × Mem := if ¬ (isB cc x ∧ rng 1 120 n) then (-1000001, fdM 0 M) else if 999 < m + n.toNatClampNeg then (-1000005, fdM 4 M) else (brF c cc n.toNatClampNeg m M x.toNatClampNeg, SV M)
theorem v_X9_brings {c : Nat} (hc : c ≤ 10) {cc : Nat} (hcc : cc ≤ 12) {m : Nat} (hm : m ≤ 3000) (x n : Int32) (M : Mem) (hM : M 63 1 = nI c) (h2 : M 63 2 = nI cc) (h0 : M 63 0 = nI m) (hW : WM c cc m M) (hW2 : ∀ i, i < cc → WM c cc m (ms (SV M) 63 (70 + 3 * i + 2) 0)) : V m_X9_brings 0 [(0, .ref 62), (1, .int x), (2, .int n)] [] M (RT (some (.int ((pBrings c cc m x n M).1))) ((pBrings c cc m x n M).2)) := by
  refine V.aload_n dX9_brings_0 rfl rfl rfl ?_
  refine V.iload_n dX9_brings_1 rfl rfl rfl ?_
  refine V.callv_i (M1 := M) (v := if isB cc x then 1 else 0) (md' := m_X9_isCrowd) (As := [.int x]) (rest := []) dX9_brings_2 ml_X9_148 mo_X9_isCrowd ⟨Nat.le_of_ble_eq_true rfl, Nat.le_of_ble_eq_true rfl⟩ rfl ⟨_, _, rfl⟩ (Nat.le_of_ble_eq_true rfl) rfl rfl (Nat.le_of_ble_eq_true rfl) (v_X9_isCrowd hcc x M h2) rfl ?_
  refine V.ifb_eq (tgt := 15) dX9_brings_5 rfl rfl (fun c5 => ?_) (fun c5 => ?_)
  · skip
    refine V.aload_n dX9_brings_15 rfl rfl rfl ?_
    refine V.ldc (v := -1000001) dX9_brings_16 cn_X9_37 rfl ?_
    refine V.callv_i (M1 := fdM 0 M) (v := -1000001) (md' := m_X9_finds) (As := [.int (-1000001)]) (rest := []) dX9_brings_18 ml_X9_51 mo_X9_finds ⟨Nat.le_of_ble_eq_true rfl, Nat.le_of_ble_eq_true rfl⟩ rfl ⟨_, _, rfl⟩ (Nat.le_of_ble_eq_true rfl) rfl rfl (Nat.le_of_ble_eq_true rfl) (v_X9_finds (w := 0) (by decide) (-1000001) (by decide +kernel) _) rfl ?_
    exact V.ret dX9_brings_21 rfl rfl ⟨(by first | (simp (decide := true) [pBrings, c5]; done) | (simp (decide := true) [pBrings, c5]; done) | (simp (decide := true) [pBrings, c5]; done) | (simp_all (decide := true) [pBrings]; done) | (simp_all (decide := true) [pBrings, ltF, leF]; done)), (by first | (simp (decide := true) [pBrings, c5]; done) | (simp (decide := true) [pBrings, c5]; done) | (simp (decide := true) [pBrings, c5]; done) | (simp_all (decide := true) [pBrings]; done) | (simp_all (decide := true) [pBrings, ltF, leF]; done))⟩
  · skip
    refine V.iload_n dX9_brings_8 rfl rfl rfl ?_
    refine V.calls_i (M1 := M) (v := if rng 1 120 n then 1 else 0) (md' := m_X9_isSpan) (As := [.int n]) (rest := []) dX9_brings_9 ml_X9_199 mo_X9_isSpan ⟨Nat.le_of_ble_eq_true rfl, Nat.le_of_ble_eq_true rfl⟩ (Nat.le_of_ble_eq_true rfl) rfl rfl (Nat.le_of_ble_eq_true rfl) (v_X9_isSpan n _) rfl ?_
    refine V.ifb_ne (tgt := 22) dX9_brings_12 rfl rfl (fun c12 => ?_) (fun c12 => ?_)
    · skip
      obtain ⟨b, hb, rfl⟩ := of_isB c5
      · have eb : (nI b).toNatClampNeg = b := nI_clamp (by omega)
        obtain ⟨k, hk, rfl⟩ := of_rng1 (b := 120) c12
        have ek : (nI k).toNatClampNeg = k := nI_clamp (by omega)
        refine V.aload_n dX9_brings_22 rfl rfl rfl ?_
        refine V.iload_n dX9_brings_23 rfl rfl rfl ?_
        refine V.callv_i (M1 := M) (v := if 999 < m + k then 1 else 0) (md' := m_X9_isTooLate) (As := [.int (nI k)]) (rest := []) dX9_brings_24 ml_X9_171 mo_X9_isTooLate ⟨Nat.le_of_ble_eq_true rfl, Nat.le_of_ble_eq_true rfl⟩ rfl ⟨_, _, rfl⟩ (Nat.le_of_ble_eq_true rfl) rfl rfl (Nat.le_of_ble_eq_true rfl) (v_X9_isTooLate (by omega) (by omega) M h0) rfl ?_
        refine V.ifb_eq (tgt := 39) dX9_brings_27 rfl rfl (fun c27 => ?_) (fun c27 => ?_)
        · skip
          refine V.aload_n dX9_brings_39 rfl rfl rfl ?_
          refine V.iload_n dX9_brings_40 rfl rfl rfl ?_
          refine V.iload_n dX9_brings_41 rfl rfl rfl ?_
          refine V.callv_i (M1 := SV M) (v := brF c cc k m M b) (md' := m_X9_bringsIn) (As := [.int (nI b), .int (nI k)]) (rest := []) dX9_brings_42 ml_X9_210 mo_X9_bringsIn ⟨Nat.le_of_ble_eq_true rfl, Nat.le_of_ble_eq_true rfl⟩ rfl ⟨_, _, rfl⟩ (Nat.le_of_ble_eq_true rfl) rfl rfl (Nat.le_of_ble_eq_true rfl) (v_X9_bringsIn hc hcc (by omega) hm M (i := b) (by omega) hW (hW2 b hb)) rfl ?_
          exact V.ret dX9_brings_45 rfl rfl ⟨(by first | (simp (decide := true) [pBrings, c5, c12, eb, ek, c27]; done) | (simp (decide := true) [pBrings, c5, c12, eb, ek, c27]; done) | (simp (decide := true) [pBrings, c5, c12, eb, ek, c27]; done) | (simp_all (decide := true) [pBrings]; done) | (simp_all (decide := true) [pBrings, ltF, leF]; done)), (by first | (simp (decide := true) [pBrings, c5, c12, eb, ek, c27]; done) | (simp (decide := true) [pBrings, c5, c12, eb, ek, c27]; done) | (simp (decide := true) [pBrings, c5, c12, eb, ek, c27]; done) | (simp_all (decide := true) [pBrings]; done) | (simp_all (decide := true) [pBrings, ltF, leF]; done))⟩
        · skip
          refine V.aload_n dX9_brings_30 rfl rfl rfl ?_
          refine V.ldc (v := -1000005) dX9_brings_31 cn_X9_98 rfl ?_
          refine V.callv_i (M1 := fdM 4 M) (v := -1000005) (md' := m_X9_finds) (As := [.int (-1000005)]) (rest := []) dX9_brings_33 ml_X9_51 mo_X9_finds ⟨Nat.le_of_ble_eq_true rfl, Nat.le_of_ble_eq_true rfl⟩ rfl ⟨_, _, rfl⟩ (Nat.le_of_ble_eq_true rfl) rfl rfl (Nat.le_of_ble_eq_true rfl) (v_X9_finds (w := 4) (by decide) (-1000005) (by decide +kernel) _) rfl ?_
          refine V.goto (pc' := 45) dX9_brings_36 rfl ?_
          exact V.ret dX9_brings_45 rfl rfl ⟨(by first | (simp (decide := true) [pBrings, c5, c12, eb, ek, c27]; done) | (simp (decide := true) [pBrings, c5, c12, eb, ek, c27]; done) | (simp (decide := true) [pBrings, c5, c12, eb, ek, c27]; done) | (simp_all (decide := true) [pBrings]; done) | (simp_all (decide := true) [pBrings, ltF, leF]; done)), (by first | (simp (decide := true) [pBrings, c5, c12, eb, ek, c27]; done) | (simp (decide := true) [pBrings, c5, c12, eb, ek, c27]; done) | (simp (decide := true) [pBrings, c5, c12, eb, ek, c27]; done) | (simp_all (decide := true) [pBrings]; done) | (simp_all (decide := true) [pBrings, ltF, leF]; done))⟩
    · skip
      refine V.aload_n dX9_brings_15 rfl rfl rfl ?_
      refine V.ldc (v := -1000001) dX9_brings_16 cn_X9_37 rfl ?_
      refine V.callv_i (M1 := fdM 0 M) (v := -1000001) (md' := m_X9_finds) (As := [.int (-1000001)]) (rest := []) dX9_brings_18 ml_X9_51 mo_X9_finds ⟨Nat.le_of_ble_eq_true rfl, Nat.le_of_ble_eq_true rfl⟩ rfl ⟨_, _, rfl⟩ (Nat.le_of_ble_eq_true rfl) rfl rfl (Nat.le_of_ble_eq_true rfl) (v_X9_finds (w := 0) (by decide) (-1000001) (by decide +kernel) _) rfl ?_
      exact V.ret dX9_brings_21 rfl rfl ⟨(by first | (simp (decide := true) [pBrings, c5, c12]; done) | (simp (decide := true) [pBrings, c5, c12]; done) | (simp (decide := true) [pBrings, c5, c12]; done) | (simp_all (decide := true) [pBrings]; done) | (simp_all (decide := true) [pBrings, ltF, leF]; done)), (by first | (simp (decide := true) [pBrings, c5, c12]; done) | (simp (decide := true) [pBrings, c5, c12]; done) | (simp (decide := true) [pBrings, c5, c12]; done) | (simp_all (decide := true) [pBrings]; done) | (simp_all (decide := true) [pBrings, ltF, leF]; done))⟩
def beG (f : Nat → Int32) : Nat → Nat → Option Nat → Int32 → Option Nat
  | 0, _, o, _ => o
  | n + 1, i, o, mo => match o with
    | none => beG f n (i + 1) (some i) (f i)
    | some j => if mo < f i then beG f n (i + 1) (some i) (f i) else beG f n (i + 1) (some j) mo
theorem be_lt {f : Nat → Int32} : ∀ (n i : Nat) (o : Option Nat) (mo : Int32), (∀ j, o = some j → j < i) → ∀ j, beG f n i o mo = some j → j < i + n := by
  intro n
  induction n with
  | zero => intro i o mo ho j h; exact ho j h
  | succ n ih =>
    intro i o mo ho j h
    cases o with
    | none =>
      have := ih (i + 1) (some i) (f i) (fun j q => by cases q; omega) j h
      omega
    | some k =>
      simp only [beG] at h
      split at h
      · have := ih (i + 1) (some i) (f i) (fun j q => by cases q; omega) j h
        omega
      · have := ih (i + 1) (some k) mo (fun j q => by cases q; have := ho k rfl; omega) j h
        omega
theorem be_some {f : Nat → Int32} : ∀ (n i : Nat) (j : Nat) (mo : Int32), ∃ k, beG f n i (some j) mo = some k := by
  intro n
  induction n with
  | zero => intro i j mo; exact ⟨j, rfl⟩
  | succ n ih =>
    intro i j mo
    simp only [beG]
    split
    · exact ih _ _ _
    · exact ih _ _ _
theorem brF_SV {c cc k m : Nat} (M : Mem) (i : Nat) : brF c cc k m (SV M) i = brF c cc k m M i := by
  unfold brF cnF
  rw [SV_SV, SV_63]
def beP (o : Option Nat) (Mx : Mem) : Int32 × Mem := match o with
  | none => (-1000004, fdM 3 Mx)
  | some j => (nI j, Mx)
theorem WM_of {c cc m : Nat} {M0 M : Mem} (h : SV M0 = SV M) (hW : WM c cc m M) : WM c cc m M0 := by
  have e : M0 63 = M 63 := by rw [← SV_63 (M := M0), h, SV_63]
  obtain ⟨h1, h2, h0, h4, hd, hq⟩ := hW
  unfold WM
  rw [e]
  exact ⟨h1, h2, h0, h4, hd, hq⟩
theorem l_X9_best {c : Nat} (hc : c ≤ 10) {cc : Nat} (hcc : cc ≤ 12) {k m : Nat} (hk : k ≤ 120) (hm : m ≤ 3000) (M : Mem) (hW : WM c cc m M) (hW2 : ∀ i, i < cc → WM c cc m (ms (SV M) 63 (70 + 3 * i + 2) 0)) (hM2 : M 63 2 = nI cc) : ∀ (n i : Nat) (o : Option Nat) (mo : Int32) (M0 : Mem), SV M0 = SV M → M0 63 2 = nI cc → (∀ j, o = some j → j < i) → i + n = cc → V m_X9_best 36 [(0, .ref 62), (1, .int (nI k)), (2, .int (bI o)), (3, .int mo), (4, .int (nI i))] [] M0 (RT (some (.int (beP (beG (brF c cc k m M) n i o mo) (if n = 0 then M0 else SV M)).1)) (beP (beG (brF c cc k m M) n i o mo) (if n = 0 then M0 else SV M)).2) := by
  intro n
  induction n with
  | zero =>
    intro i o mo M0 hSV h2 ho hi
    rcases o with _ | j
    · refine V.iload dX9_best_36 rfl rfl ?_
      refine V.aload_n dX9_best_38 rfl rfl rfl ?_
      refine V.getr dX9_best_39 fg_X9_7 rfl rfl rfl ?_
      refine V.iconst (v := 2) dX9_best_42 rfl rfl ?_
      refine V.ialdN (j := 2) (v := nI cc) dX9_best_43 rfl (by decide) (by decide) rfl h2 rfl ?_
      refine V.icmp_ge (tgt := 78) dX9_best_44 rfl rfl (fun c44 => ?_) (fun c44 => absurd ((nI_leI (a := cc) (b := i) (by omega) (by omega)).mpr (by omega)) c44)
      have c44 : cc ≤ i := (nI_leI (a := cc) (b := i) (by omega) (by omega)).mp c44
      refine V.iload_n dX9_best_78 rfl rfl rfl ?_
      refine V.if_ge (tgt := 91) dX9_best_79 rfl rfl (fun c79 => absurd c79 (by decide)) (fun _ => ?_)
      refine V.aload_n dX9_best_82 rfl rfl rfl ?_
      refine V.ldc (v := -1000004) dX9_best_83 cn_X9_195 rfl ?_
      refine V.callv_i (M1 := fdM 3 M0) (v := -1000004) (md' := m_X9_finds) (As := [.int (-1000004)]) (rest := []) dX9_best_85 ml_X9_51 mo_X9_finds ⟨Nat.le_of_ble_eq_true rfl, Nat.le_of_ble_eq_true rfl⟩ rfl ⟨_, _, rfl⟩ (Nat.le_of_ble_eq_true rfl) rfl rfl (Nat.le_of_ble_eq_true rfl) (v_X9_finds (w := 3) (by decide) (-1000004) (by decide +kernel) _) rfl ?_
      refine V.goto (pc' := 92) dX9_best_88 rfl ?_
      exact V.ret dX9_best_92 rfl rfl ⟨(by first | (simp [beG, beP]; done) | (simp [beG, beP, bI]; done)), (by simp [beG, beP])⟩
    · have hj : j < i := ho j rfl
      refine V.iload dX9_best_36 rfl rfl ?_
      refine V.aload_n dX9_best_38 rfl rfl rfl ?_
      refine V.getr dX9_best_39 fg_X9_7 rfl rfl rfl ?_
      refine V.iconst (v := 2) dX9_best_42 rfl rfl ?_
      refine V.ialdN (j := 2) (v := nI cc) dX9_best_43 rfl (by decide) (by decide) rfl h2 rfl ?_
      refine V.icmp_ge (tgt := 78) dX9_best_44 rfl rfl (fun c44 => ?_) (fun c44 => absurd ((nI_leI (a := cc) (b := i) (by omega) (by omega)).mpr (by omega)) c44)
      have c44 : cc ≤ i := (nI_leI (a := cc) (b := i) (by omega) (by omega)).mp c44
      refine V.iload_n dX9_best_78 rfl rfl rfl ?_
      refine V.if_ge (tgt := 91) dX9_best_79 rfl rfl (fun c79 => ?_) (fun c79 => absurd ((nI_leI (a := 0) (b := j) (by omega) (by omega)).mpr (by omega)) c79)
      have c79 : 0 ≤ j := (nI_leI (a := 0) (b := j) (by omega) (by omega)).mp c79
      refine V.iload_n dX9_best_91 rfl rfl rfl ?_
      exact V.ret dX9_best_92 rfl rfl ⟨(by first | (simp [beG, beP]; done) | (simp [beG, beP, bI]; done)), (by simp [beG, beP])⟩
  | succ n ih =>
    intro i o mo M0 hSV h2 ho hi
    rcases o with _ | j
    · refine V.iload dX9_best_36 rfl rfl ?_
      refine V.aload_n dX9_best_38 rfl rfl rfl ?_
      refine V.getr dX9_best_39 fg_X9_7 rfl rfl rfl ?_
      refine V.iconst (v := 2) dX9_best_42 rfl rfl ?_
      refine V.ialdN (j := 2) (v := nI cc) dX9_best_43 rfl (by decide) (by decide) rfl h2 rfl ?_
      refine V.icmp_ge (tgt := 78) dX9_best_44 rfl rfl (fun c44 => absurd ((nI_leI (a := cc) (b := i) (by omega) (by omega)).mp c44) (by omega)) (fun c44 => ?_)
      have c44 : ¬ cc ≤ i := fun zq => c44 ((nI_leI (a := cc) (b := i) (by omega) (by omega)).mpr zq)
      refine V.aload_n dX9_best_47 rfl rfl rfl ?_
      refine V.iload dX9_best_48 rfl rfl ?_
      refine V.iload_n dX9_best_50 rfl rfl rfl ?_
      refine V.callv_i (M1 := SV M) (v := brF c cc k m M i) (md' := m_X9_bringsIn) (As := [.int (nI i), .int (nI k)]) (rest := []) dX9_best_51 ml_X9_210 mo_X9_bringsIn ⟨Nat.le_of_ble_eq_true rfl, Nat.le_of_ble_eq_true rfl⟩ rfl ⟨_, _, rfl⟩ (Nat.le_of_ble_eq_true rfl) rfl rfl (Nat.le_of_ble_eq_true rfl) (by have h := v_X9_bringsIn hc hcc (k := k) (m := m) hk hm M0 (i := i) (by omega) (WM_of hSV hW) (by rw [hSV]; exact hW2 i (by omega)); rw [← brF_SV, hSV, brF_SV] at h; exact h) rfl ?_
      refine V.ist dX9_best_54 (by decide) (L' := [(0, .ref 62), (1, .int (nI k)), (2, .int (-1)), (3, .int mo), (4, .int (nI i)), (5, .int (brF c cc k m M i))]) rfl rfl ?_
      refine V.iload_n dX9_best_56 rfl rfl rfl ?_
      refine V.if_lt (tgt := 66) dX9_best_57 rfl rfl (fun _ => ?_) (fun c57 => absurd c57 (by decide))
      refine V.iload dX9_best_66 rfl rfl ?_
      refine V.ist_n dX9_best_68 rfl (by decide) (L' := [(0, .ref 62), (1, .int (nI k)), (2, .int (nI i)), (3, .int mo), (4, .int (nI i)), (5, .int (brF c cc k m M i))]) rfl rfl ?_
      refine V.iload dX9_best_69 rfl rfl ?_
      refine V.ist_n dX9_best_71 rfl (by decide) (L' := [(0, .ref 62), (1, .int (nI k)), (2, .int (nI i)), (3, .int (brF c cc k m M i)), (4, .int (nI i)), (5, .int (brF c cc k m M i))]) rfl rfl ?_
      refine V.inc (v := nI (i + 1)) dX9_best_72 rfl (nI_1 _) (by decide) (L' := [(0, .ref 62), (1, .int (nI k)), (2, .int (nI i)), (3, .int (brF c cc k m M i)), (4, .int (nI (i + 1))), (5, .int (brF c cc k m M i))]) rfl rfl ?_
      refine V.goto (pc' := 36) dX9_best_75 rfl ?_
      refine V.loc (L' := [(0, .ref 62), (1, .int (nI k)), (2, .int (nI i)), (3, .int (brF c cc k m M i)), (4, .int (nI (i + 1)))]) (fun zq zh => List.mem_append_left [(5, Value.int (brF c cc k m M i))] zh) ?_
      have e1 : beG (brF c cc k m M) (n + 1) i none mo = beG (brF c cc k m M) n (i + 1) (some i) (brF c cc k m M i) := by simp only [beG]
      have h := ih (i + 1) (some i) (brF c cc k m M i) (SV M) (SV_SV M) (by rw [SV_63]; exact hM2) (fun j q => by cases q; omega) (by omega)
      rw [show (if n = 0 then SV M else SV M) = SV M from by split <;> rfl] at h
      rw [e1, if_neg (by omega)]
      exact h
    · have hj : j < i := ho j rfl
      refine V.iload dX9_best_36 rfl rfl ?_
      refine V.aload_n dX9_best_38 rfl rfl rfl ?_
      refine V.getr dX9_best_39 fg_X9_7 rfl rfl rfl ?_
      refine V.iconst (v := 2) dX9_best_42 rfl rfl ?_
      refine V.ialdN (j := 2) (v := nI cc) dX9_best_43 rfl (by decide) (by decide) rfl h2 rfl ?_
      refine V.icmp_ge (tgt := 78) dX9_best_44 rfl rfl (fun c44 => absurd ((nI_leI (a := cc) (b := i) (by omega) (by omega)).mp c44) (by omega)) (fun c44 => ?_)
      have c44 : ¬ cc ≤ i := fun zq => c44 ((nI_leI (a := cc) (b := i) (by omega) (by omega)).mpr zq)
      refine V.aload_n dX9_best_47 rfl rfl rfl ?_
      refine V.iload dX9_best_48 rfl rfl ?_
      refine V.iload_n dX9_best_50 rfl rfl rfl ?_
      refine V.callv_i (M1 := SV M) (v := brF c cc k m M i) (md' := m_X9_bringsIn) (As := [.int (nI i), .int (nI k)]) (rest := []) dX9_best_51 ml_X9_210 mo_X9_bringsIn ⟨Nat.le_of_ble_eq_true rfl, Nat.le_of_ble_eq_true rfl⟩ rfl ⟨_, _, rfl⟩ (Nat.le_of_ble_eq_true rfl) rfl rfl (Nat.le_of_ble_eq_true rfl) (by have h := v_X9_bringsIn hc hcc (k := k) (m := m) hk hm M0 (i := i) (by omega) (WM_of hSV hW) (by rw [hSV]; exact hW2 i (by omega)); rw [← brF_SV, hSV, brF_SV] at h; exact h) rfl ?_
      refine V.ist dX9_best_54 (by decide) (L' := [(0, .ref 62), (1, .int (nI k)), (2, .int (nI j)), (3, .int mo), (4, .int (nI i)), (5, .int (brF c cc k m M i))]) rfl rfl ?_
      refine V.iload_n dX9_best_56 rfl rfl rfl ?_
      refine V.if_lt (tgt := 66) dX9_best_57 rfl rfl (fun c57 => absurd ((nI_ltI (a := j) (b := 0) (by omega) (by omega)).mp c57) (by omega)) (fun c57 => ?_)
      have c57 : ¬ j < 0 := fun zq => c57 ((nI_ltI (a := j) (b := 0) (by omega) (by omega)).mpr zq)
      refine V.iload dX9_best_60 rfl rfl ?_
      refine V.iload_n dX9_best_62 rfl rfl rfl ?_
      refine V.icmp_le (tgt := 72) dX9_best_63 rfl rfl (fun c63 => ?_) (fun c63 => ?_)
      · skip
        refine V.inc (v := nI (i + 1)) dX9_best_72 rfl (nI_1 _) (by decide) (L' := [(0, .ref 62), (1, .int (nI k)), (2, .int (nI j)), (3, .int mo), (4, .int (nI (i + 1))), (5, .int (brF c cc k m M i))]) rfl rfl ?_
        refine V.goto (pc' := 36) dX9_best_75 rfl ?_
        refine V.loc (L' := [(0, .ref 62), (1, .int (nI k)), (2, .int (nI j)), (3, .int mo), (4, .int (nI (i + 1)))]) (fun zq zh => List.mem_append_left [(5, Value.int (brF c cc k m M i))] zh) ?_
        have e1 : beG (brF c cc k m M) (n + 1) i (some j) mo = beG (brF c cc k m M) n (i + 1) (some j) mo := by simp only [beG]; rw [if_neg (Int32.not_lt.mpr c63)]
        have h := ih (i + 1) (some j) mo (SV M) (SV_SV M) (by rw [SV_63]; exact hM2) (fun j q => by cases q; omega) (by omega)
        rw [show (if n = 0 then SV M else SV M) = SV M from by split <;> rfl] at h
        rw [e1, if_neg (by omega)]
        exact h
      · skip
        refine V.iload dX9_best_66 rfl rfl ?_
        refine V.ist_n dX9_best_68 rfl (by decide) (L' := [(0, .ref 62), (1, .int (nI k)), (2, .int (nI i)), (3, .int mo), (4, .int (nI i)), (5, .int (brF c cc k m M i))]) rfl rfl ?_
        refine V.iload dX9_best_69 rfl rfl ?_
        refine V.ist_n dX9_best_71 rfl (by decide) (L' := [(0, .ref 62), (1, .int (nI k)), (2, .int (nI i)), (3, .int (brF c cc k m M i)), (4, .int (nI i)), (5, .int (brF c cc k m M i))]) rfl rfl ?_
        refine V.inc (v := nI (i + 1)) dX9_best_72 rfl (nI_1 _) (by decide) (L' := [(0, .ref 62), (1, .int (nI k)), (2, .int (nI i)), (3, .int (brF c cc k m M i)), (4, .int (nI (i + 1))), (5, .int (brF c cc k m M i))]) rfl rfl ?_
        refine V.goto (pc' := 36) dX9_best_75 rfl ?_
        refine V.loc (L' := [(0, .ref 62), (1, .int (nI k)), (2, .int (nI i)), (3, .int (brF c cc k m M i)), (4, .int (nI (i + 1)))]) (fun zq zh => List.mem_append_left [(5, Value.int (brF c cc k m M i))] zh) ?_
        have e1 : beG (brF c cc k m M) (n + 1) i (some j) mo = beG (brF c cc k m M) n (i + 1) (some i) (brF c cc k m M i) := by simp only [beG]; rw [if_pos (Int32.not_le.mp c63)]
        have h := ih (i + 1) (some i) (brF c cc k m M i) (SV M) (SV_SV M) (by rw [SV_63]; exact hM2) (fun j q => by cases q; omega) (by omega)
        rw [show (if n = 0 then SV M else SV M) = SV M from by split <;> rfl] at h
        rw [e1, if_neg (by omega)]
        exact h
def pBest (c cc m : Nat) (n : Int32) (M : Mem) : Int32 × Mem := if ¬ rng 1 120 n then (-1000001, fdM 0 M) else if 999 < m + n.toNatClampNeg then (-1000005, fdM 4 M) else beP (beG (brF c cc n.toNatClampNeg m M) cc 0 none 0) (if cc = 0 then M else SV M)
theorem v_X9_best {c : Nat} (hc : c ≤ 10) {cc : Nat} (hcc : cc ≤ 12) {m : Nat} (hm : m ≤ 3000) (n : Int32) (M : Mem) (hM : M 63 1 = nI c) (h2 : M 63 2 = nI cc) (h0 : M 63 0 = nI m) (hW : WM c cc m M) (hW2 : ∀ i, i < cc → WM c cc m (ms (SV M) 63 (70 + 3 * i + 2) 0)) : V m_X9_best 0 [(0, .ref 62), (1, .int n)] [] M (RT (some (.int ((pBest c cc m n M).1))) ((pBest c cc m n M).2)) := by
  refine V.iload_n dX9_best_0 rfl rfl rfl ?_
  refine V.calls_i (M1 := M) (v := if rng 1 120 n then 1 else 0) (md' := m_X9_isSpan) (As := [.int n]) (rest := []) dX9_best_1 ml_X9_199 mo_X9_isSpan ⟨Nat.le_of_ble_eq_true rfl, Nat.le_of_ble_eq_true rfl⟩ (Nat.le_of_ble_eq_true rfl) rfl rfl (Nat.le_of_ble_eq_true rfl) (v_X9_isSpan n _) rfl ?_
  refine V.ifb_ne (tgt := 14) dX9_best_4 rfl rfl (fun c4 => ?_) (fun c4 => ?_)
  · skip
    obtain ⟨k, hk, rfl⟩ := of_rng1 (b := 120) c4
    · have ek : (nI k).toNatClampNeg = k := nI_clamp (by omega)
      refine V.aload_n dX9_best_14 rfl rfl rfl ?_
      refine V.iload_n dX9_best_15 rfl rfl rfl ?_
      refine V.callv_i (M1 := M) (v := if 999 < m + k then 1 else 0) (md' := m_X9_isTooLate) (As := [.int (nI k)]) (rest := []) dX9_best_16 ml_X9_171 mo_X9_isTooLate ⟨Nat.le_of_ble_eq_true rfl, Nat.le_of_ble_eq_true rfl⟩ rfl ⟨_, _, rfl⟩ (Nat.le_of_ble_eq_true rfl) rfl rfl (Nat.le_of_ble_eq_true rfl) (v_X9_isTooLate (by omega) (by omega) M h0) rfl ?_
      refine V.ifb_eq (tgt := 29) dX9_best_19 rfl rfl (fun c19 => ?_) (fun c19 => ?_)
      · skip
        refine V.iconst (v := -1) dX9_best_29 rfl rfl ?_
        refine V.ist_n dX9_best_30 rfl (by decide) (L' := [(0, .ref 62), (1, .int (nI k)), (2, .int (-1))]) rfl rfl ?_
        refine V.iconst (v := 0) dX9_best_31 rfl rfl ?_
        refine V.ist_n dX9_best_32 rfl (by decide) (L' := [(0, .ref 62), (1, .int (nI k)), (2, .int (-1)), (3, .int 0)]) rfl rfl ?_
        refine V.iconst (v := 0) dX9_best_33 rfl rfl ?_
        refine V.ist dX9_best_34 (by decide) (L' := [(0, .ref 62), (1, .int (nI k)), (2, .int (-1)), (3, .int 0), (4, .int 0)]) rfl rfl ?_
        rw [show pBest c cc m (nI k) M = beP (beG (brF c cc k m M) cc 0 none 0) (if cc = 0 then M else SV M) from by simp (decide := true) [pBest, c4, ek, c19]]
        exact l_X9_best hc hcc (by omega) hm M hW hW2 h2 cc 0 none 0 M rfl h2 (fun j q => by cases q) (by omega)
      · skip
        refine V.aload_n dX9_best_22 rfl rfl rfl ?_
        refine V.ldc (v := -1000005) dX9_best_23 cn_X9_98 rfl ?_
        refine V.callv_i (M1 := fdM 4 M) (v := -1000005) (md' := m_X9_finds) (As := [.int (-1000005)]) (rest := []) dX9_best_25 ml_X9_51 mo_X9_finds ⟨Nat.le_of_ble_eq_true rfl, Nat.le_of_ble_eq_true rfl⟩ rfl ⟨_, _, rfl⟩ (Nat.le_of_ble_eq_true rfl) rfl rfl (Nat.le_of_ble_eq_true rfl) (v_X9_finds (w := 4) (by decide) (-1000005) (by decide +kernel) _) rfl ?_
        exact V.ret dX9_best_28 rfl rfl ⟨(by first | (simp (decide := true) [pBest, c4, ek, c19]; done) | (simp (decide := true) [pBest, c4, ek, c19]; done) | (simp (decide := true) [pBest, c4, ek, c19]; done) | (simp_all (decide := true) [pBest]; done) | (simp_all (decide := true) [pBest, ltF, leF]; done)), (by first | (simp (decide := true) [pBest, c4, ek, c19]; done) | (simp (decide := true) [pBest, c4, ek, c19]; done) | (simp (decide := true) [pBest, c4, ek, c19]; done) | (simp_all (decide := true) [pBest]; done) | (simp_all (decide := true) [pBest, ltF, leF]; done))⟩
  · skip
    refine V.aload_n dX9_best_7 rfl rfl rfl ?_
    refine V.ldc (v := -1000001) dX9_best_8 cn_X9_37 rfl ?_
    refine V.callv_i (M1 := fdM 0 M) (v := -1000001) (md' := m_X9_finds) (As := [.int (-1000001)]) (rest := []) dX9_best_10 ml_X9_51 mo_X9_finds ⟨Nat.le_of_ble_eq_true rfl, Nat.le_of_ble_eq_true rfl⟩ rfl ⟨_, _, rfl⟩ (Nat.le_of_ble_eq_true rfl) rfl rfl (Nat.le_of_ble_eq_true rfl) (v_X9_finds (w := 0) (by decide) (-1000001) (by decide +kernel) _) rfl ?_
    exact V.ret dX9_best_13 rfl rfl ⟨(by first | (simp (decide := true) [pBest, c4]; done) | (simp (decide := true) [pBest, c4]; done) | (simp (decide := true) [pBest, c4]; done) | (simp_all (decide := true) [pBest]; done) | (simp_all (decide := true) [pBest, ltF, leF]; done)), (by first | (simp (decide := true) [pBest, c4]; done) | (simp (decide := true) [pBest, c4]; done) | (simp (decide := true) [pBest, c4]; done) | (simp_all (decide := true) [pBest]; done) | (simp_all (decide := true) [pBest, ltF, leF]; done))⟩
theorem l_X9_doneSet {c : Nat} (hc : c ≤ 10) (M : Mem) (hM : M 63 1 = nI c) : ∀ (n i : Nat) (s : Int32), i + n = c → V m_X9_doneSet 4 [(0, .ref 62), (1, .int s), (2, .int (nI i))] [] M (RT (some (.int (doneG (col M 0) (col M 2) (col M 4) n i s))) M) := by
  intro n
  induction n with
  | zero =>
    intro i s hi
    refine V.iload_n dX9_doneSet_4 rfl rfl rfl ?_
    refine V.aload_n dX9_doneSet_5 rfl rfl rfl ?_
    refine V.getr dX9_doneSet_6 fg_X9_7 rfl rfl rfl ?_
    refine V.iconst (v := 1) dX9_doneSet_9 rfl rfl ?_
    refine V.ialdN (j := 1) (v := nI c) dX9_doneSet_10 rfl (by decide) (by decide) rfl hM rfl ?_
    refine V.icmp_ge (tgt := 76) dX9_doneSet_11 rfl rfl (fun c11 => ?_) (fun c11 => absurd ((nI_leI (a := c) (b := i) (by omega) (by omega)).mpr (by omega)) c11)
    have c11 : c ≤ i := (nI_leI (a := c) (b := i) (by omega) (by omega)).mp c11
    refine V.iload_n dX9_doneSet_76 rfl rfl rfl ?_
    exact V.ret dX9_doneSet_77 rfl rfl ⟨rfl, rfl⟩
  | succ n ih =>
    intro i s hi
    refine V.iload_n dX9_doneSet_4 rfl rfl rfl ?_
    refine V.aload_n dX9_doneSet_5 rfl rfl rfl ?_
    refine V.getr dX9_doneSet_6 fg_X9_7 rfl rfl rfl ?_
    refine V.iconst (v := 1) dX9_doneSet_9 rfl rfl ?_
    refine V.ialdN (j := 1) (v := nI c) dX9_doneSet_10 rfl (by decide) (by decide) rfl hM rfl ?_
    refine V.icmp_ge (tgt := 76) dX9_doneSet_11 rfl rfl (fun c11 => absurd ((nI_leI (a := c) (b := i) (by omega) (by omega)).mp c11) (by omega)) (fun c11 => ?_)
    have c11 : ¬ c ≤ i := fun zq => c11 ((nI_leI (a := c) (b := i) (by omega) (by omega)).mpr zq)
    refine V.aload_n dX9_doneSet_14 rfl rfl rfl ?_
    refine V.iload_n dX9_doneSet_15 rfl rfl rfl ?_
    refine V.iconst (v := 4) dX9_doneSet_16 rfl rfl ?_
    refine V.callv_i (M1 := M) (v := M 63 (20 + 5 * i + 4)) (md' := m_X9_its) (As := [.int (nI i), .int 4]) (rest := []) dX9_doneSet_17 ml_X9_60 mo_X9_its ⟨Nat.le_of_ble_eq_true rfl, Nat.le_of_ble_eq_true rfl⟩ rfl ⟨_, _, rfl⟩ (Nat.le_of_ble_eq_true rfl) rfl rfl (Nat.le_of_ble_eq_true rfl) (v_X9_its (b := i) (w := 4) (by omega) (by omega) _) rfl ?_
    refine V.iconst (v := 1) dX9_doneSet_20 rfl rfl ?_
    refine V.icmp_eq (tgt := 34) dX9_doneSet_21 rfl rfl (fun c21 => ?_) (fun c21 => ?_)
    · skip
      refine V.aload_n dX9_doneSet_34 rfl rfl rfl ?_
      refine V.iload_n dX9_doneSet_35 rfl rfl rfl ?_
      refine V.callv_i (M1 := M) (v := if readyF (M 63 (20 + 5 * i)) ≤ M 63 (20 + 5 * i + 2) then 1 else 0) (md' := m_X9_isReady) (As := [.int (nI i)]) (rest := []) dX9_doneSet_36 ml_X9_114 mo_X9_isReady ⟨Nat.le_of_ble_eq_true rfl, Nat.le_of_ble_eq_true rfl⟩ rfl ⟨_, _, rfl⟩ (Nat.le_of_ble_eq_true rfl) rfl rfl (Nat.le_of_ble_eq_true rfl) (v_X9_isReady (b := i) (by omega) _) rfl ?_
      refine V.ifb_eq (tgt := 54) dX9_doneSet_39 rfl rfl (fun c39 => ?_) (fun c39 => ?_)
      · skip
        refine V.iconst (v := 0) dX9_doneSet_54 rfl rfl ?_
        refine V.ist_n dX9_doneSet_55 rfl (by decide) (L' := [(0, .ref 62), (1, .int s), (2, .int (nI i)), (3, .int 0)]) rfl rfl ?_
        refine V.iload_n dX9_doneSet_56 rfl rfl rfl ?_
        refine V.iload_n dX9_doneSet_57 rfl rfl rfl ?_
        refine V.if_eq (tgt := 67) dX9_doneSet_58 rfl rfl (fun _ => ?_) (fun c58 => absurd c58 (by decide))
        refine V.iconst (v := 0) dX9_doneSet_67 rfl rfl ?_
        refine V.ior (v := s ||| 0) dX9_doneSet_68 rfl rfl ?_
        refine V.ist_n dX9_doneSet_69 rfl (by decide) (L' := [(0, .ref 62), (1, .int (s ||| 0)), (2, .int (nI i)), (3, .int 0)]) rfl rfl ?_
        refine V.inc (v := nI (i + 1)) dX9_doneSet_70 rfl (nI_1 _) (by decide) (L' := [(0, .ref 62), (1, .int (s ||| 0)), (2, .int (nI (i + 1))), (3, .int 0)]) rfl rfl ?_
        refine V.goto (pc' := 4) dX9_doneSet_73 rfl ?_
        refine V.loc (L' := [(0, .ref 62), (1, .int (s ||| 0)), (2, .int (nI (i + 1)))]) (fun zq zh => List.mem_append_left [(3, Value.int 0)] zh) ?_
        rw [show doneG (col M 0) (col M 2) (col M 4) (n + 1) i s = doneG (col M 0) (col M 2) (col M 4) n (i + 1) (s ||| 0) from by simp only [doneG]; rw [if_neg (fun q => c39 q.2.1.2), Int32.or_zero]]
        exact ih (i + 1) _ (by omega)
      · skip
        refine V.aload_n dX9_doneSet_42 rfl rfl rfl ?_
        refine V.iload_n dX9_doneSet_43 rfl rfl rfl ?_
        refine V.callv_i (M1 := M) (v := if burntF (M 63 (20 + 5 * i)) ≤ M 63 (20 + 5 * i + 2) then 1 else 0) (md' := m_X9_isBurnt) (As := [.int (nI i)]) (rest := []) dX9_doneSet_44 ml_X9_111 mo_X9_isBurnt ⟨Nat.le_of_ble_eq_true rfl, Nat.le_of_ble_eq_true rfl⟩ rfl ⟨_, _, rfl⟩ (Nat.le_of_ble_eq_true rfl) rfl rfl (Nat.le_of_ble_eq_true rfl) (v_X9_isBurnt (b := i) (by omega) _) rfl ?_
        refine V.ifb_ne (tgt := 54) dX9_doneSet_47 rfl rfl (fun c47 => ?_) (fun c47 => ?_)
        · skip
          refine V.iconst (v := 0) dX9_doneSet_54 rfl rfl ?_
          refine V.ist_n dX9_doneSet_55 rfl (by decide) (L' := [(0, .ref 62), (1, .int s), (2, .int (nI i)), (3, .int 0)]) rfl rfl ?_
          refine V.iload_n dX9_doneSet_56 rfl rfl rfl ?_
          refine V.iload_n dX9_doneSet_57 rfl rfl rfl ?_
          refine V.if_eq (tgt := 67) dX9_doneSet_58 rfl rfl (fun _ => ?_) (fun c58 => absurd c58 (by decide))
          refine V.iconst (v := 0) dX9_doneSet_67 rfl rfl ?_
          refine V.ior (v := s ||| 0) dX9_doneSet_68 rfl rfl ?_
          refine V.ist_n dX9_doneSet_69 rfl (by decide) (L' := [(0, .ref 62), (1, .int (s ||| 0)), (2, .int (nI i)), (3, .int 0)]) rfl rfl ?_
          refine V.inc (v := nI (i + 1)) dX9_doneSet_70 rfl (nI_1 _) (by decide) (L' := [(0, .ref 62), (1, .int (s ||| 0)), (2, .int (nI (i + 1))), (3, .int 0)]) rfl rfl ?_
          refine V.goto (pc' := 4) dX9_doneSet_73 rfl ?_
          refine V.loc (L' := [(0, .ref 62), (1, .int (s ||| 0)), (2, .int (nI (i + 1)))]) (fun zq zh => List.mem_append_left [(3, Value.int 0)] zh) ?_
          rw [show doneG (col M 0) (col M 2) (col M 4) (n + 1) i s = doneG (col M 0) (col M 2) (col M 4) n (i + 1) (s ||| 0) from by simp only [doneG]; rw [if_neg (fun q => q.2.2 c47), Int32.or_zero]]
          exact ih (i + 1) _ (by omega)
        · skip
          refine V.iconst (v := 1) dX9_doneSet_50 rfl rfl ?_
          refine V.goto (pc' := 55) dX9_doneSet_51 rfl ?_
          refine V.ist_n dX9_doneSet_55 rfl (by decide) (L' := [(0, .ref 62), (1, .int s), (2, .int (nI i)), (3, .int 1)]) rfl rfl ?_
          refine V.iload_n dX9_doneSet_56 rfl rfl rfl ?_
          refine V.iload_n dX9_doneSet_57 rfl rfl rfl ?_
          refine V.if_eq (tgt := 67) dX9_doneSet_58 rfl rfl (fun c58 => absurd c58 (by decide)) (fun _ => ?_)
          refine V.iconst (v := 1) dX9_doneSet_61 rfl rfl ?_
          refine V.iload_n dX9_doneSet_62 rfl rfl rfl ?_
          refine V.ishl (v := 1 <<< ((nI i) &&& 31)) dX9_doneSet_63 rfl rfl ?_
          refine V.goto (pc' := 68) dX9_doneSet_64 rfl ?_
          refine V.ior (v := s ||| (1 <<< ((nI i) &&& 31))) dX9_doneSet_68 rfl rfl ?_
          refine V.ist_n dX9_doneSet_69 rfl (by decide) (L' := [(0, .ref 62), (1, .int (s ||| (1 <<< ((nI i) &&& 31)))), (2, .int (nI i)), (3, .int 1)]) rfl rfl ?_
          refine V.inc (v := nI (i + 1)) dX9_doneSet_70 rfl (nI_1 _) (by decide) (L' := [(0, .ref 62), (1, .int (s ||| (1 <<< ((nI i) &&& 31)))), (2, .int (nI (i + 1))), (3, .int 1)]) rfl rfl ?_
          refine V.goto (pc' := 4) dX9_doneSet_73 rfl ?_
          refine V.loc (L' := [(0, .ref 62), (1, .int (s ||| (1 <<< ((nI i) &&& 31)))), (2, .int (nI (i + 1)))]) (fun zq zh => List.mem_append_left [(3, Value.int 1)] zh) ?_
          rw [show doneG (col M 0) (col M 2) (col M 4) (n + 1) i s = doneG (col M 0) (col M 2) (col M 4) n (i + 1) (s ||| (1 <<< ((nI i) &&& 31))) from by simp only [doneG]; rw [if_pos ⟨Or.inl c21, ⟨fun z => absurd (c21.symm.trans z) (by decide), c39⟩, c47⟩]]
          exact ih (i + 1) _ (by omega)
    · skip
      refine V.aload_n dX9_doneSet_24 rfl rfl rfl ?_
      refine V.iload_n dX9_doneSet_25 rfl rfl rfl ?_
      refine V.iconst (v := 4) dX9_doneSet_26 rfl rfl ?_
      refine V.callv_i (M1 := M) (v := M 63 (20 + 5 * i + 4)) (md' := m_X9_its) (As := [.int (nI i), .int 4]) (rest := []) dX9_doneSet_27 ml_X9_60 mo_X9_its ⟨Nat.le_of_ble_eq_true rfl, Nat.le_of_ble_eq_true rfl⟩ rfl ⟨_, _, rfl⟩ (Nat.le_of_ble_eq_true rfl) rfl rfl (Nat.le_of_ble_eq_true rfl) (v_X9_its (b := i) (w := 4) (by omega) (by omega) _) rfl ?_
      refine V.iconst (v := 2) dX9_doneSet_30 rfl rfl ?_
      refine V.icmp_ne (tgt := 54) dX9_doneSet_31 rfl rfl (fun c31 => ?_) (fun c31 => ?_)
      · skip
        refine V.iconst (v := 0) dX9_doneSet_54 rfl rfl ?_
        refine V.ist_n dX9_doneSet_55 rfl (by decide) (L' := [(0, .ref 62), (1, .int s), (2, .int (nI i)), (3, .int 0)]) rfl rfl ?_
        refine V.iload_n dX9_doneSet_56 rfl rfl rfl ?_
        refine V.iload_n dX9_doneSet_57 rfl rfl rfl ?_
        refine V.if_eq (tgt := 67) dX9_doneSet_58 rfl rfl (fun _ => ?_) (fun c58 => absurd c58 (by decide))
        refine V.iconst (v := 0) dX9_doneSet_67 rfl rfl ?_
        refine V.ior (v := s ||| 0) dX9_doneSet_68 rfl rfl ?_
        refine V.ist_n dX9_doneSet_69 rfl (by decide) (L' := [(0, .ref 62), (1, .int (s ||| 0)), (2, .int (nI i)), (3, .int 0)]) rfl rfl ?_
        refine V.inc (v := nI (i + 1)) dX9_doneSet_70 rfl (nI_1 _) (by decide) (L' := [(0, .ref 62), (1, .int (s ||| 0)), (2, .int (nI (i + 1))), (3, .int 0)]) rfl rfl ?_
        refine V.goto (pc' := 4) dX9_doneSet_73 rfl ?_
        refine V.loc (L' := [(0, .ref 62), (1, .int (s ||| 0)), (2, .int (nI (i + 1)))]) (fun zq zh => List.mem_append_left [(3, Value.int 0)] zh) ?_
        rw [show doneG (col M 0) (col M 2) (col M 4) (n + 1) i s = doneG (col M 0) (col M 2) (col M 4) n (i + 1) (s ||| 0) from by simp only [doneG]; rw [if_neg (fun q => q.1.elim c21 c31), Int32.or_zero]]
        exact ih (i + 1) _ (by omega)
      · skip
        refine V.aload_n dX9_doneSet_34 rfl rfl rfl ?_
        refine V.iload_n dX9_doneSet_35 rfl rfl rfl ?_
        refine V.callv_i (M1 := M) (v := if readyF (M 63 (20 + 5 * i)) ≤ M 63 (20 + 5 * i + 2) then 1 else 0) (md' := m_X9_isReady) (As := [.int (nI i)]) (rest := []) dX9_doneSet_36 ml_X9_114 mo_X9_isReady ⟨Nat.le_of_ble_eq_true rfl, Nat.le_of_ble_eq_true rfl⟩ rfl ⟨_, _, rfl⟩ (Nat.le_of_ble_eq_true rfl) rfl rfl (Nat.le_of_ble_eq_true rfl) (v_X9_isReady (b := i) (by omega) _) rfl ?_
        refine V.ifb_eq (tgt := 54) dX9_doneSet_39 rfl rfl (fun c39 => ?_) (fun c39 => ?_)
        · skip
          refine V.iconst (v := 0) dX9_doneSet_54 rfl rfl ?_
          refine V.ist_n dX9_doneSet_55 rfl (by decide) (L' := [(0, .ref 62), (1, .int s), (2, .int (nI i)), (3, .int 0)]) rfl rfl ?_
          refine V.iload_n dX9_doneSet_56 rfl rfl rfl ?_
          refine V.iload_n dX9_doneSet_57 rfl rfl rfl ?_
          refine V.if_eq (tgt := 67) dX9_doneSet_58 rfl rfl (fun _ => ?_) (fun c58 => absurd c58 (by decide))
          refine V.iconst (v := 0) dX9_doneSet_67 rfl rfl ?_
          refine V.ior (v := s ||| 0) dX9_doneSet_68 rfl rfl ?_
          refine V.ist_n dX9_doneSet_69 rfl (by decide) (L' := [(0, .ref 62), (1, .int (s ||| 0)), (2, .int (nI i)), (3, .int 0)]) rfl rfl ?_
          refine V.inc (v := nI (i + 1)) dX9_doneSet_70 rfl (nI_1 _) (by decide) (L' := [(0, .ref 62), (1, .int (s ||| 0)), (2, .int (nI (i + 1))), (3, .int 0)]) rfl rfl ?_
          refine V.goto (pc' := 4) dX9_doneSet_73 rfl ?_
          refine V.loc (L' := [(0, .ref 62), (1, .int (s ||| 0)), (2, .int (nI (i + 1)))]) (fun zq zh => List.mem_append_left [(3, Value.int 0)] zh) ?_
          rw [show doneG (col M 0) (col M 2) (col M 4) (n + 1) i s = doneG (col M 0) (col M 2) (col M 4) n (i + 1) (s ||| 0) from by simp only [doneG]; rw [if_neg (fun q => c39 q.2.1.2), Int32.or_zero]]
          exact ih (i + 1) _ (by omega)
        · skip
          refine V.aload_n dX9_doneSet_42 rfl rfl rfl ?_
          refine V.iload_n dX9_doneSet_43 rfl rfl rfl ?_
          refine V.callv_i (M1 := M) (v := if burntF (M 63 (20 + 5 * i)) ≤ M 63 (20 + 5 * i + 2) then 1 else 0) (md' := m_X9_isBurnt) (As := [.int (nI i)]) (rest := []) dX9_doneSet_44 ml_X9_111 mo_X9_isBurnt ⟨Nat.le_of_ble_eq_true rfl, Nat.le_of_ble_eq_true rfl⟩ rfl ⟨_, _, rfl⟩ (Nat.le_of_ble_eq_true rfl) rfl rfl (Nat.le_of_ble_eq_true rfl) (v_X9_isBurnt (b := i) (by omega) _) rfl ?_
          refine V.ifb_ne (tgt := 54) dX9_doneSet_47 rfl rfl (fun c47 => ?_) (fun c47 => ?_)
          · skip
            refine V.iconst (v := 0) dX9_doneSet_54 rfl rfl ?_
            refine V.ist_n dX9_doneSet_55 rfl (by decide) (L' := [(0, .ref 62), (1, .int s), (2, .int (nI i)), (3, .int 0)]) rfl rfl ?_
            refine V.iload_n dX9_doneSet_56 rfl rfl rfl ?_
            refine V.iload_n dX9_doneSet_57 rfl rfl rfl ?_
            refine V.if_eq (tgt := 67) dX9_doneSet_58 rfl rfl (fun _ => ?_) (fun c58 => absurd c58 (by decide))
            refine V.iconst (v := 0) dX9_doneSet_67 rfl rfl ?_
            refine V.ior (v := s ||| 0) dX9_doneSet_68 rfl rfl ?_
            refine V.ist_n dX9_doneSet_69 rfl (by decide) (L' := [(0, .ref 62), (1, .int (s ||| 0)), (2, .int (nI i)), (3, .int 0)]) rfl rfl ?_
            refine V.inc (v := nI (i + 1)) dX9_doneSet_70 rfl (nI_1 _) (by decide) (L' := [(0, .ref 62), (1, .int (s ||| 0)), (2, .int (nI (i + 1))), (3, .int 0)]) rfl rfl ?_
            refine V.goto (pc' := 4) dX9_doneSet_73 rfl ?_
            refine V.loc (L' := [(0, .ref 62), (1, .int (s ||| 0)), (2, .int (nI (i + 1)))]) (fun zq zh => List.mem_append_left [(3, Value.int 0)] zh) ?_
            rw [show doneG (col M 0) (col M 2) (col M 4) (n + 1) i s = doneG (col M 0) (col M 2) (col M 4) n (i + 1) (s ||| 0) from by simp only [doneG]; rw [if_neg (fun q => q.2.2 c47), Int32.or_zero]]
            exact ih (i + 1) _ (by omega)
          · skip
            refine V.iconst (v := 1) dX9_doneSet_50 rfl rfl ?_
            refine V.goto (pc' := 55) dX9_doneSet_51 rfl ?_
            refine V.ist_n dX9_doneSet_55 rfl (by decide) (L' := [(0, .ref 62), (1, .int s), (2, .int (nI i)), (3, .int 1)]) rfl rfl ?_
            refine V.iload_n dX9_doneSet_56 rfl rfl rfl ?_
            refine V.iload_n dX9_doneSet_57 rfl rfl rfl ?_
            refine V.if_eq (tgt := 67) dX9_doneSet_58 rfl rfl (fun c58 => absurd c58 (by decide)) (fun _ => ?_)
            refine V.iconst (v := 1) dX9_doneSet_61 rfl rfl ?_
            refine V.iload_n dX9_doneSet_62 rfl rfl rfl ?_
            refine V.ishl (v := 1 <<< ((nI i) &&& 31)) dX9_doneSet_63 rfl rfl ?_
            refine V.goto (pc' := 68) dX9_doneSet_64 rfl ?_
            refine V.ior (v := s ||| (1 <<< ((nI i) &&& 31))) dX9_doneSet_68 rfl rfl ?_
            refine V.ist_n dX9_doneSet_69 rfl (by decide) (L' := [(0, .ref 62), (1, .int (s ||| (1 <<< ((nI i) &&& 31)))), (2, .int (nI i)), (3, .int 1)]) rfl rfl ?_
            refine V.inc (v := nI (i + 1)) dX9_doneSet_70 rfl (nI_1 _) (by decide) (L' := [(0, .ref 62), (1, .int (s ||| (1 <<< ((nI i) &&& 31)))), (2, .int (nI (i + 1))), (3, .int 1)]) rfl rfl ?_
            refine V.goto (pc' := 4) dX9_doneSet_73 rfl ?_
            refine V.loc (L' := [(0, .ref 62), (1, .int (s ||| (1 <<< ((nI i) &&& 31)))), (2, .int (nI (i + 1)))]) (fun zq zh => List.mem_append_left [(3, Value.int 1)] zh) ?_
            rw [show doneG (col M 0) (col M 2) (col M 4) (n + 1) i s = doneG (col M 0) (col M 2) (col M 4) n (i + 1) (s ||| (1 <<< ((nI i) &&& 31))) from by simp only [doneG]; rw [if_pos ⟨Or.inr c31, ⟨fun z => absurd (c31.symm.trans z) (by decide), c39⟩, c47⟩]]
            exact ih (i + 1) _ (by omega)
theorem v_X9_doneSet {c : Nat} (hc : c ≤ 10) (M : Mem) (hM : M 63 1 = nI c) : V m_X9_doneSet 0 [(0, .ref 62)] [] M (RT (some (.int (doneG (col M 0) (col M 2) (col M 4) c 0 0))) M) := by
  refine V.iconst (v := 0) dX9_doneSet_0 rfl rfl ?_
  refine V.ist_n dX9_doneSet_1 rfl (by decide) (L' := [(0, .ref 62), (1, .int 0)]) rfl rfl ?_
  refine V.iconst (v := 0) dX9_doneSet_2 rfl rfl ?_
  refine V.ist_n dX9_doneSet_3 rfl (by decide) (L' := [(0, .ref 62), (1, .int 0), (2, .int 0)]) rfl rfl ?_
  exact l_X9_doneSet hc M hM c 0 0 (by omega)
theorem l_X9_bagsLeft {c : Nat} (hc : c ≤ 10) (M : Mem) (hM : M 63 1 = nI c) : ∀ (n i : Nat) (s : Int32), i + n = c → V m_X9_bagsLeft 4 [(0, .ref 62), (1, .int s), (2, .int (nI i))] [] M (RT (some (.int (sumN (col M 1) (col M 4) n i s))) M) := by
  intro n
  induction n with
  | zero =>
    intro i s hi
    refine V.iload_n dX9_bagsLeft_4 rfl rfl rfl ?_
    refine V.aload_n dX9_bagsLeft_5 rfl rfl rfl ?_
    refine V.getr dX9_bagsLeft_6 fg_X9_7 rfl rfl rfl ?_
    refine V.iconst (v := 1) dX9_bagsLeft_9 rfl rfl ?_
    refine V.ialdN (j := 1) (v := nI c) dX9_bagsLeft_10 rfl (by decide) (by decide) rfl hM rfl ?_
    refine V.icmp_ge (tgt := 43) dX9_bagsLeft_11 rfl rfl (fun c11 => ?_) (fun c11 => absurd ((nI_leI (a := c) (b := i) (by omega) (by omega)).mpr (by omega)) c11)
    have c11 : c ≤ i := (nI_leI (a := c) (b := i) (by omega) (by omega)).mp c11
    refine V.iload_n dX9_bagsLeft_43 rfl rfl rfl ?_
    exact V.ret dX9_bagsLeft_44 rfl rfl ⟨rfl, rfl⟩
  | succ n ih =>
    intro i s hi
    refine V.iload_n dX9_bagsLeft_4 rfl rfl rfl ?_
    refine V.aload_n dX9_bagsLeft_5 rfl rfl rfl ?_
    refine V.getr dX9_bagsLeft_6 fg_X9_7 rfl rfl rfl ?_
    refine V.iconst (v := 1) dX9_bagsLeft_9 rfl rfl ?_
    refine V.ialdN (j := 1) (v := nI c) dX9_bagsLeft_10 rfl (by decide) (by decide) rfl hM rfl ?_
    refine V.icmp_ge (tgt := 43) dX9_bagsLeft_11 rfl rfl (fun c11 => absurd ((nI_leI (a := c) (b := i) (by omega) (by omega)).mp c11) (by omega)) (fun c11 => ?_)
    have c11 : ¬ c ≤ i := fun zq => c11 ((nI_leI (a := c) (b := i) (by omega) (by omega)).mpr zq)
    refine V.iload_n dX9_bagsLeft_14 rfl rfl rfl ?_
    refine V.aload_n dX9_bagsLeft_15 rfl rfl rfl ?_
    refine V.iload_n dX9_bagsLeft_16 rfl rfl rfl ?_
    refine V.iconst (v := 4) dX9_bagsLeft_17 rfl rfl ?_
    refine V.callv_i (M1 := M) (v := M 63 (20 + 5 * i + 4)) (md' := m_X9_its) (As := [.int (nI i), .int 4]) (rest := [.int s]) dX9_bagsLeft_18 ml_X9_60 mo_X9_its ⟨Nat.le_of_ble_eq_true rfl, Nat.le_of_ble_eq_true rfl⟩ rfl ⟨_, _, rfl⟩ (Nat.le_of_ble_eq_true rfl) rfl rfl (Nat.le_of_ble_eq_true rfl) (v_X9_its (b := i) (w := 4) (by omega) (by omega) _) rfl ?_
    refine V.iconst (v := 4) dX9_bagsLeft_21 rfl rfl ?_
    refine V.icmp_ne (tgt := 29) dX9_bagsLeft_22 rfl rfl (fun c22 => ?_) (fun c22 => ?_)
    · skip
      refine V.aload_n dX9_bagsLeft_29 rfl rfl rfl ?_
      refine V.iload_n dX9_bagsLeft_30 rfl rfl rfl ?_
      refine V.iconst (v := 1) dX9_bagsLeft_31 rfl rfl ?_
      refine V.callv_i (M1 := M) (v := M 63 (20 + 5 * i + 1)) (md' := m_X9_its) (As := [.int (nI i), .int 1]) (rest := [.int s]) dX9_bagsLeft_32 ml_X9_60 mo_X9_its ⟨Nat.le_of_ble_eq_true rfl, Nat.le_of_ble_eq_true rfl⟩ rfl ⟨_, _, rfl⟩ (Nat.le_of_ble_eq_true rfl) rfl rfl (Nat.le_of_ble_eq_true rfl) (v_X9_its (b := i) (w := 1) (by omega) (by omega) _) rfl ?_
      refine V.iadd (v := s + (M 63 (20 + 5 * i + 1))) dX9_bagsLeft_35 rfl rfl ?_
      refine V.ist_n dX9_bagsLeft_36 rfl (by decide) (L' := [(0, .ref 62), (1, .int (s + (M 63 (20 + 5 * i + 1)))), (2, .int (nI i))]) rfl rfl ?_
      refine V.inc (v := nI (i + 1)) dX9_bagsLeft_37 rfl (nI_1 _) (by decide) (L' := [(0, .ref 62), (1, .int (s + (M 63 (20 + 5 * i + 1)))), (2, .int (nI (i + 1)))]) rfl rfl ?_
      refine V.goto (pc' := 4) dX9_bagsLeft_40 rfl ?_
      rw [show sumN (col M 1) (col M 4) (n + 1) i s = sumN (col M 1) (col M 4) n (i + 1) (s + (M 63 (20 + 5 * i + 1))) from by simp only [sumN]; rw [if_neg (show ¬ col M 4 i = 4 from c22)]; rfl]
      exact ih (i + 1) _ (by omega)
    · skip
      refine V.iconst (v := 0) dX9_bagsLeft_25 rfl rfl ?_
      refine V.goto (pc' := 35) dX9_bagsLeft_26 rfl ?_
      refine V.iadd (v := s + 0) dX9_bagsLeft_35 rfl rfl ?_
      refine V.ist_n dX9_bagsLeft_36 rfl (by decide) (L' := [(0, .ref 62), (1, .int (s + 0)), (2, .int (nI i))]) rfl rfl ?_
      refine V.inc (v := nI (i + 1)) dX9_bagsLeft_37 rfl (nI_1 _) (by decide) (L' := [(0, .ref 62), (1, .int (s + 0)), (2, .int (nI (i + 1)))]) rfl rfl ?_
      refine V.goto (pc' := 4) dX9_bagsLeft_40 rfl ?_
      rw [show sumN (col M 1) (col M 4) (n + 1) i s = sumN (col M 1) (col M 4) n (i + 1) (s + 0) from by simp only [sumN]; rw [if_pos (show col M 4 i = 4 from c22), Int32.add_zero]]
      exact ih (i + 1) _ (by omega)
theorem v_X9_bagsLeft {c : Nat} (hc : c ≤ 10) (M : Mem) (hM : M 63 1 = nI c) : V m_X9_bagsLeft 0 [(0, .ref 62)] [] M (RT (some (.int (sumN (col M 1) (col M 4) c 0 0))) M) := by
  refine V.iconst (v := 0) dX9_bagsLeft_0 rfl rfl ?_
  refine V.ist_n dX9_bagsLeft_1 rfl (by decide) (L' := [(0, .ref 62), (1, .int 0)]) rfl rfl ?_
  refine V.iconst (v := 0) dX9_bagsLeft_2 rfl rfl ?_
  refine V.ist_n dX9_bagsLeft_3 rfl (by decide) (L' := [(0, .ref 62), (1, .int 0), (2, .int 0)]) rfl rfl ?_
  exact l_X9_bagsLeft hc M hM c 0 0 (by omega)
