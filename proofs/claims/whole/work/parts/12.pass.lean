/-! Evening: serve, pass -/
def s1F (e p c i : Nat) (M : Mem) : Int32 × Mem := selG e p c 0 10 1 10 (comeF (M (e+10) i) (M e 6) (M e 5)) M
def s2F (e p c i : Nat) (M : Mem) : Int32 × Mem := selG e p c 11 25 2 10 (s1F e p c i M).1 (s1F e p c i M).2
def serM (e p c i : Nat) (M : Mem) : Mem := ms (s2F e p c i M).2 e 13 ((s1F e p c i M).2 e 13 + (s2F e p c i M).1)
def serG (e p c : Nat) : Nat → Nat → Mem → Mem
  | 0, _, M => M
  | n + 1, i, M => serG e p c n (i + 1) (if M (e+8) i = M e 9 ∧ M (e+9) i = M e 7 then serM e p c i M else M)
theorem s1F_k {e p c i a : Nat} {M : Mem} (h1 : a ≠ e) (h2 : a ≠ e + 3) : (s1F e p c i M).2 a = M a := selG_k h1 h2 _ _ _
theorem s1F_f {e p c i j : Nat} {M : Mem} (h1 : j ≠ 8) (h2 : j ≠ 11) : (s1F e p c i M).2 e j = M e j := selG_f h1 h2 _ _ _
theorem s2F_k {e p c i a : Nat} {M : Mem} (h1 : a ≠ e) (h2 : a ≠ e + 3) : (s2F e p c i M).2 a = M a := (selG_k h1 h2 _ _ _).trans (s1F_k h1 h2)
theorem s2F_f {e p c i j : Nat} {M : Mem} (h1 : j ≠ 8) (h2 : j ≠ 11) : (s2F e p c i M).2 e j = M e j := (selG_f h1 h2 _ _ _).trans (s1F_f h1 h2)
theorem serM_k {e p c i a : Nat} {M : Mem} (h1 : a ≠ e) (h2 : a ≠ e + 3) : serM e p c i M a = M a := (ms_k h1).trans (s2F_k h1 h2)
theorem serM_f {e p c i j : Nat} {M : Mem} (h1 : j ≠ 8) (h2 : j ≠ 11) (h3 : j ≠ 13) : serM e p c i M e j = M e j := (ms_j h3).trans (s2F_f h1 h2)
theorem serG_k {e p c a : Nat} (h1 : a ≠ e) (h2 : a ≠ e + 3) : ∀ (n i : Nat) (M : Mem), serG e p c n i M a = M a := by
  intro n
  induction n with
  | zero => intro i M; rfl
  | succ n ih => intro i M; simp only [serG]; rw [ih]; split <;> first | rfl | exact serM_k h1 h2
theorem serG_f {e p c j : Nat} (h1 : j ≠ 8) (h2 : j ≠ 11) (h3 : j ≠ 13) : ∀ (n i : Nat) (M : Mem), serG e p c n i M e j = M e j := by
  intro n
  induction n with
  | zero => intro i M; rfl
  | succ n ih => intro i M; simp only [serG]; rw [ih]; split <;> first | rfl | exact serM_f h1 h2 h3
theorem l_X2_serve {e : Nat} (he : isE e) {c : Nat} (hc : c ≤ 10) {cc : Nat} (hcc : cc ≤ 12) {p : Nat} (hp : p ≤ 100) : ∀ (n i : Nat) (M : Mem), M (e+1) 5 = nI c → M e 5 = nI p → M (e+7) 3 = nI cc → i + n = cc → V m_X2_serve 2 [(0, .ref e), (1, .int (nI i))] [] M (RT none (serG e p c n i M)) := by
  intro n
  induction n with
  | zero =>
    intro i M h1 hP h7 hi
    refine V.iload_n dX2_serve_2 rfl rfl rfl ?_
    refine V.aload_n dX2_serve_3 rfl rfl rfl ?_
    refine V.getr dX2_serve_4 fg_X2_21 (sh_ev he) rfl rfl ?_
    refine V.geti (v := nI cc) dX2_serve_7 fg_X2_108 (sh_cr he) rfl h7 rfl ?_
    refine V.icmp_ge (tgt := 84) dX2_serve_10 rfl rfl (fun c10 => ?_) (fun c10 => absurd ((nI_leI (a := cc) (b := i) (by omega) (by omega)).mpr (by omega)) c10)
    have c10 : cc ≤ i := (nI_leI (a := cc) (b := i) (by omega) (by omega)).mp c10
    exact V.vret dX2_serve_84 rfl ⟨rfl, rfl⟩
  | succ n ih =>
    intro i M h1 hP h7 hi
    refine V.iload_n dX2_serve_2 rfl rfl rfl ?_
    refine V.aload_n dX2_serve_3 rfl rfl rfl ?_
    refine V.getr dX2_serve_4 fg_X2_21 (sh_ev he) rfl rfl ?_
    refine V.geti (v := nI cc) dX2_serve_7 fg_X2_108 (sh_cr he) rfl h7 rfl ?_
    refine V.icmp_ge (tgt := 84) dX2_serve_10 rfl rfl (fun c10 => absurd ((nI_leI (a := cc) (b := i) (by omega) (by omega)).mp c10) (by omega)) (fun c10 => ?_)
    have c10 : ¬ cc ≤ i := fun q => c10 ((nI_leI (a := cc) (b := i) (by omega) (by omega)).mpr q)
    refine V.aload_n dX2_serve_13 rfl rfl rfl ?_
    refine V.getr dX2_serve_14 fg_X2_21 (sh_ev he) rfl rfl ?_
    refine V.getr dX2_serve_17 fg_X2_111 (sh_cr he) rfl rfl ?_
    refine V.iload_n dX2_serve_20 rfl rfl rfl ?_
    refine V.ialdN (j := i) (v := M (e+8) i) dX2_serve_21 (sh_a8 he) (by omega) (by decide) rfl rfl rfl ?_
    refine V.aload_n dX2_serve_22 rfl rfl rfl ?_
    refine V.geti (v := M e 9) dX2_serve_23 fg_X2_48 (sh_ev he) rfl rfl rfl ?_
    refine V.icmp_ne (tgt := 78) dX2_serve_26 rfl rfl (fun c26 => ?_) (fun c26 => ?_)
    · skip
      refine V.inc (v := nI (i + 1)) dX2_serve_78 rfl (nI_1 _) (by decide) (L' := [(0, .ref e), (1, .int (nI (i + 1)))]) rfl rfl ?_
      refine V.goto (pc' := 2) dX2_serve_81 rfl ?_
      rw [show serG e p c (n + 1) i M = serG e p c n (i + 1) M from by simp only [serG]; rw [if_neg (fun q => c26 q.1)]]
      exact ih (i + 1) _ h1 hP h7 (by omega)
    · skip
      refine V.aload_n dX2_serve_29 rfl rfl rfl ?_
      refine V.getr dX2_serve_30 fg_X2_21 (sh_ev he) rfl rfl ?_
      refine V.getr dX2_serve_33 fg_X2_113 (sh_cr he) rfl rfl ?_
      refine V.iload_n dX2_serve_36 rfl rfl rfl ?_
      refine V.ialdN (j := i) (v := M (e+9) i) dX2_serve_37 (sh_a9 he) (by omega) (by decide) rfl rfl rfl ?_
      refine V.aload_n dX2_serve_38 rfl rfl rfl ?_
      refine V.geti (v := M e 7) dX2_serve_39 fg_X2_42 (sh_ev he) rfl rfl rfl ?_
      refine V.icmp_ne (tgt := 78) dX2_serve_42 rfl rfl (fun c42 => ?_) (fun c42 => ?_)
      · skip
        refine V.inc (v := nI (i + 1)) dX2_serve_78 rfl (nI_1 _) (by decide) (L' := [(0, .ref e), (1, .int (nI (i + 1)))]) rfl rfl ?_
        refine V.goto (pc' := 2) dX2_serve_81 rfl ?_
        rw [show serG e p c (n + 1) i M = serG e p c n (i + 1) M from by simp only [serG]; rw [if_neg (fun q => c42 q.2)]]
        exact ih (i + 1) _ h1 hP h7 (by omega)
      · skip
        refine V.aload_n dX2_serve_45 rfl rfl rfl ?_
        refine V.aload_n dX2_serve_46 rfl rfl rfl ?_
        refine V.iload_n dX2_serve_47 rfl rfl rfl ?_
        refine V.callv_i (M1 := M) (v := comeF (M (e+10) i) (M e 6) (M e 5)) (md' := m_X2_coming) (As := [.int (nI i)]) (rest := [.ref e]) dX2_serve_48 ml_X2_115 mo_X2_coming ⟨Nat.le_of_ble_eq_true rfl, Nat.le_of_ble_eq_true rfl⟩ (sh_ev he) ⟨_, _, rfl⟩ (Nat.le_of_ble_eq_true rfl) rfl rfl (Nat.le_of_ble_eq_true rfl) (v_X2_coming he (b := i) (by omega) _) rfl ?_
        refine V.iconst (v := 0) dX2_serve_51 rfl rfl ?_
        refine V.bipush (v := 10) dX2_serve_52 (by decide) rfl ?_
        refine V.iconst (v := 1) dX2_serve_54 rfl rfl ?_
        refine V.callv_i (M1 := (s1F e p c i M).2) (v := (s1F e p c i M).1) (md' := m_X2_sell) (As := [.int (comeF (M (e+10) i) (M e 6) (M e 5)), .int 0, .int 10, .int 1]) (rest := []) dX2_serve_55 ml_X2_118 mo_X2_sell ⟨Nat.le_of_ble_eq_true rfl, Nat.le_of_ble_eq_true rfl⟩ (sh_ev he) ⟨_, _, rfl⟩ (Nat.le_of_ble_eq_true rfl) rfl rfl (Nat.le_of_ble_eq_true rfl) (v_X2_sell he hc hp _ _ _ _ _ h1 hP) rfl ?_
        refine V.ist_n dX2_serve_58 rfl (by decide) (L' := [(0, .ref e), (1, .int (nI i)), (2, .int ((s1F e p c i M).1))]) rfl rfl ?_
        refine V.aload_n dX2_serve_59 rfl rfl rfl ?_
        refine V.dup dX2_serve_60 rfl rfl ?_
        refine V.geti (v := ((s1F e p c i M).2) e 13) dX2_serve_61 fg_X2_60 (sh_ev he) rfl rfl rfl ?_
        refine V.aload_n dX2_serve_64 rfl rfl rfl ?_
        refine V.iload_n dX2_serve_65 rfl rfl rfl ?_
        refine V.bipush (v := 11) dX2_serve_66 (by decide) rfl ?_
        refine V.bipush (v := 25) dX2_serve_68 (by decide) rfl ?_
        refine V.iconst (v := 2) dX2_serve_70 rfl rfl ?_
        refine V.callv_i (M1 := (s2F e p c i M).2) (v := (s2F e p c i M).1) (md' := m_X2_sell) (As := [.int ((s1F e p c i M).1), .int 11, .int 25, .int 2]) (rest := [.int (((s1F e p c i M).2) e 13), .ref e]) dX2_serve_71 ml_X2_118 mo_X2_sell ⟨Nat.le_of_ble_eq_true rfl, Nat.le_of_ble_eq_true rfl⟩ (sh_ev he) ⟨_, _, rfl⟩ (Nat.le_of_ble_eq_true rfl) rfl rfl (Nat.le_of_ble_eq_true rfl) (v_X2_sell he hc hp _ _ _ _ _ (by rw [s1F_k (by omega) (by omega)]; exact h1) (by rw [s1F_f (by decide) (by decide)]; exact hP)) rfl ?_
        refine V.iadd (v := (((s1F e p c i M).2) e 13) + ((s2F e p c i M).1)) dX2_serve_74 rfl rfl ?_
        refine V.puti dX2_serve_75 fp_X2_60 (sh_ev he) rfl rfl rfl (M' := (ms (s2F e p c i M).2 e 13 ((((s1F e p c i M).2) e 13) + ((s2F e p c i M).1)))) rfl rfl ?_
        refine V.inc (v := nI (i + 1)) dX2_serve_78 rfl (nI_1 _) (by decide) (L' := [(0, .ref e), (1, .int (nI (i + 1))), (2, .int ((s1F e p c i M).1))]) rfl rfl ?_
        refine V.goto (pc' := 2) dX2_serve_81 rfl ?_
        refine V.loc (L' := [(0, .ref e), (1, .int (nI (i + 1)))]) (fun q h => List.mem_append_left [(2, Value.int ((s1F e p c i M).1))] h) ?_
        rw [show serG e p c (n + 1) i M = serG e p c n (i + 1) (serM e p c i M) from by simp only [serG]; rw [if_pos ⟨c26, c42⟩]]
        exact ih (i + 1) (serM e p c i M) (by rw [serM_k (by omega) (by omega)]; exact h1) (by rw [serM_f (by decide) (by decide) (by decide)]; exact hP) (by rw [serM_k (by omega) (by omega)]; exact h7) (by omega)
theorem v_X2_serve {e : Nat} (he : isE e) {c : Nat} (hc : c ≤ 10) {cc : Nat} (hcc : cc ≤ 12) {p : Nat} (hp : p ≤ 100) (M : Mem) (h1 : M (e+1) 5 = nI c) (hP : M e 5 = nI p) (h7 : M (e+7) 3 = nI cc) : V m_X2_serve 0 [(0, .ref e)] [] M (RT none (serG e p c cc 0 M)) := by
  refine V.iconst (v := 0) dX2_serve_0 rfl rfl ?_
  refine V.ist_n dX2_serve_1 rfl (by decide) (L' := [(0, .ref e), (1, .int 0)]) rfl rfl ?_
  exact l_X2_serve he hc hcc hp cc 0 M h1 hP h7 (by omega)
theorem roStep_k {e hn b a : Nat} {M : Mem} (h3 : a ≠ e + 3) (h4 : a ≠ e + 4) (h6 : a ≠ e + 6) : roStep e hn b M a = M a := by
  unfold roStep
  split
  · split
    · funext j; rw [lay4_k h6 h3, rb_k h4]
    · rw [rb_k h4]
  · split
    · rw [rb_k h4]
    · rfl
theorem roG_k {e hn a : Nat} (h3 : a ≠ e + 3) (h4 : a ≠ e + 4) (h6 : a ≠ e + 6) : ∀ (n i : Nat) (M : Mem) (w : Int32), (roG e hn n i M w).1 a = M a := by
  intro n
  induction n with
  | zero => intro i M w; rfl
  | succ n ih => intro i M w; simp only [roG]; rw [ih, roStep_k h3 h4 h6]
theorem agG_k {e a : Nat} (h : a ≠ e + 5) : ∀ (n i : Nat) (M : Mem), agG e n i M a = M a := by
  intro n
  induction n with
  | zero => intro i M; rfl
  | succ n ih => intro i M; simp only [agG]; rw [ih]; split <;> first | rfl | exact ms_k h
def m1M (e m : Nat) (M : Mem) : Mem := warmM e m (M e 4).toNatClampNeg (M (e+11) (m % 7)).toNatClampNeg M
def m2M (e c m : Nat) (M : Mem) : Mem := ms (roG e (m1M e m M e 4).toNatClampNeg c 0 (m1M e m M) 0).1 e 12 (m1M e m M e 12 + (roG e (m1M e m M e 4).toNatClampNeg c 0 (m1M e m M) 0).2)
def m3M (e c m : Nat) (M : Mem) : Mem := agG e c 0 (m2M e c m M)
def m4M (e c cc p m : Nat) (M : Mem) : Mem := if 0 < m3M e c m M e 10 then ms (m3M e c m M) e 10 (m3M e c m M e 10 - 1) else serG e p c cc 0 (m3M e c m M)
def minM (e c cc p m : Nat) (M : Mem) : Mem := ms (m4M e c cc p m M) e 7 (nI (m + 1))
def passG (e c cc p : Nat) : Nat → Nat → Mem → Mem
  | 0, _, M => M
  | n + 1, m, M => passG e c cc p n (m + 1) (minM e c cc p m M)
theorem m1M_k {e m a : Nat} {M : Mem} (h1 : a ≠ e) (h2 : a ≠ e + 11) : m1M e m M a = M a := by simp (disch := assumption) only [m1M, warmM, ms_k]
theorem m1M_f {e m j : Nat} {M : Mem} (h : j ≠ 4) : m1M e m M e j = M e j := by simp [m1M, warmM, ms, h]
theorem m2M_k {e c m a : Nat} {M : Mem} (h0 : a ≠ e) (h3 : a ≠ e + 3) (h4 : a ≠ e + 4) (h6 : a ≠ e + 6) : m2M e c m M a = m1M e m M a := by rw [m2M, ms_k h0, roG_k h3 h4 h6]
theorem m2M_f {e c m j : Nat} {M : Mem} (h : j ≠ 12) : m2M e c m M e j = m1M e m M e j := by rw [m2M, ms_j h, roG_k (by omega) (by omega) (by omega)]
theorem m3M_k {e c m a : Nat} {M : Mem} (h0 : a ≠ e) (h3 : a ≠ e + 3) (h4 : a ≠ e + 4) (h5 : a ≠ e + 5) (h6 : a ≠ e + 6) : m3M e c m M a = m1M e m M a := by rw [m3M, agG_k h5, m2M_k h0 h3 h4 h6]
theorem m3M_f {e c m j : Nat} {M : Mem} (h : j ≠ 12) : m3M e c m M e j = m1M e m M e j := by rw [m3M, agG_k (by omega), m2M_f h]
theorem m4M_k {e c cc p m a : Nat} {M : Mem} (h0 : a ≠ e) (h3 : a ≠ e + 3) (h4 : a ≠ e + 4) (h5 : a ≠ e + 5) (h6 : a ≠ e + 6) : m4M e c cc p m M a = m1M e m M a := by
  unfold m4M
  split
  · rw [ms_k h0, m3M_k h0 h3 h4 h5 h6]
  · rw [serG_k h0 h3, m3M_k h0 h3 h4 h5 h6]
theorem m4M_f {e c cc p m j : Nat} {M : Mem} (h8 : j ≠ 8) (h10 : j ≠ 10) (h11 : j ≠ 11) (h12 : j ≠ 12) (h13 : j ≠ 13) : m4M e c cc p m M e j = m1M e m M e j := by
  unfold m4M
  split
  · rw [ms_j h10, m3M_f h12]
  · rw [serG_f h8 h11 h13, m3M_f h12]
/-- an evening that may go on -/
def WE (e c cc p m : Nat) (M : Mem) : Prop := M (e+1) 5 = nI c ∧ M (e+7) 3 = nI cc ∧ M e 5 = nI p ∧ M e 7 = nI m ∧ (∃ h, h ≤ 20 ∧ M e 4 = nI h) ∧ ∀ k, k < 7 → ∃ d, d ≤ 100000 ∧ M (e+11) k = nI d
theorem m1M_eq {e m h d : Nat} {M : Mem} (h20 : h ≤ 20) (hd5 : d ≤ 100000) (hh : M e 4 = nI h) (hd : M (e+11) (m % 7) = nI d) : m1M e m M = warmM e m h d M := by
  rw [m1M, hh, hd, nI_clamp (by omega), nI_clamp (by omega)]
theorem m1M_h {e m h d : Nat} {M : Mem} (h20 : h ≤ 20) (hd5 : d ≤ 100000) (hh : M e 4 = nI h) (hd : M (e+11) (m % 7) = nI d) : m1M e m M e 4 = nI (hN h d m) := by
  rw [m1M_eq h20 hd5 hh hd, warmM, ms_s]
theorem WE_min {e c cc p m : Nat} {M : Mem} (hW : WE e c cc p m M) : WE e c cc p (m + 1) (minM e c cc p m M) := by
  obtain ⟨h1, h7, hP, hm, ⟨h, h20, hh⟩, hd⟩ := hW
  obtain ⟨d, hd5, hd'⟩ := hd (m % 7) (Nat.mod_lt _ (by decide))
  refine ⟨?_, ?_, ?_, ?_, ⟨hN h d m, hN_le h d m, ?_⟩, fun k hk => ?_⟩
  · rw [minM, ms_k (by omega), m4M_k (by omega) (by omega) (by omega) (by omega) (by omega), m1M_k (by omega) (by omega)]; exact h1
  · rw [minM, ms_k (by omega), m4M_k (by omega) (by omega) (by omega) (by omega) (by omega), m1M_k (by omega) (by omega)]; exact h7
  · rw [minM, ms_j (by decide), m4M_f (by decide) (by decide) (by decide) (by decide) (by decide), m1M_f (by decide)]; exact hP
  · rw [minM, ms_s]
  · rw [minM, ms_j (by decide), m4M_f (by decide) (by decide) (by decide) (by decide) (by decide), m1M_h h20 hd5 hh hd']
  · rw [minM, ms_k (by omega), m4M_k (by omega) (by omega) (by omega) (by omega) (by omega), m1M_eq h20 hd5 hh hd', warmM, ms_k (by omega)]
    by_cases q : k = m % 7
    · subst q; rw [ms_s]; exact ⟨0, by omega, rfl⟩
    · rw [ms_j q]; exact hd k hk
theorem l_X2_pass {e : Nat} (he : isE e) {c : Nat} (hc : c ≤ 10) {cc : Nat} (hcc : cc ≤ 12) {p : Nat} (hp : p ≤ 100) (n0 : Nat) (hn0 : n0 ≤ 1000) (b0 : Int32) : ∀ (n i : Nat) (m : Nat) (M : Mem), WE e c cc p m M → m + n ≤ 5000 → i + n = n0 → V m_X2_pass 7 [(0, .ref e), (1, .int (nI n0)), (2, .int b0), (3, .int (nI i))] [] M (RT (some (.int (passG e c cc p n m M e 8 - b0))) (passG e c cc p n m M)) := by
  intro n
  induction n with
  | zero =>
    intro i m M hW hmn hi
    have hW0 := hW
    obtain ⟨h1, h7, hP, hm, ⟨h, h20, hh⟩, hd⟩ := hW
    obtain ⟨d, hd5, hd1⟩ := hd (m % 7) (Nat.mod_lt _ (by decide))
    refine V.iload_n dX2_pass_7 rfl rfl rfl ?_
    refine V.iload_n dX2_pass_8 rfl rfl rfl ?_
    refine V.icmp_ge (tgt := 83) dX2_pass_9 rfl rfl (fun c9 => ?_) (fun c9 => absurd ((nI_leI (a := n0) (b := i) (by omega) (by omega)).mpr (by omega)) c9)
    have c9 : n0 ≤ i := (nI_leI (a := n0) (b := i) (by omega) (by omega)).mp c9
    refine V.aload_n dX2_pass_83 rfl rfl rfl ?_
    refine V.geti (v := M e 8) dX2_pass_84 fg_X2_45 (sh_ev he) rfl rfl rfl ?_
    refine V.iload_n dX2_pass_87 rfl rfl rfl ?_
    refine V.isub (v := (M e 8) - b0) dX2_pass_88 rfl rfl ?_
    exact V.ret dX2_pass_89 rfl rfl ⟨rfl, rfl⟩
  | succ n ih =>
    intro i m M hW hmn hi
    have hW0 := hW
    obtain ⟨h1, h7, hP, hm, ⟨h, h20, hh⟩, hd⟩ := hW
    obtain ⟨d, hd5, hd1⟩ := hd (m % 7) (Nat.mod_lt _ (by decide))
    refine V.iload_n dX2_pass_7 rfl rfl rfl ?_
    refine V.iload_n dX2_pass_8 rfl rfl rfl ?_
    refine V.icmp_ge (tgt := 83) dX2_pass_9 rfl rfl (fun c9 => absurd ((nI_leI (a := n0) (b := i) (by omega) (by omega)).mp c9) (by omega)) (fun c9 => ?_)
    have c9 : ¬ n0 ≤ i := fun q => c9 ((nI_leI (a := n0) (b := i) (by omega) (by omega)).mpr q)
    refine V.aload_n dX2_pass_12 rfl rfl rfl ?_
    refine V.callv_v (M1 := m1M e m M) (md' := m_X2_warm) (As := []) (rest := []) dX2_pass_13 ml_X2_89 mo_X2_warm ⟨Nat.le_of_ble_eq_true rfl, Nat.le_of_ble_eq_true rfl⟩ (sh_ev he) ⟨_, _, rfl⟩ (Nat.le_of_ble_eq_true rfl) rfl rfl (Nat.le_of_ble_eq_true rfl) (by rw [m1M_eq h20 hd5 hh hd1]; exact v_X2_warm he (by omega) h20 hd5 M hm hh hd1) rfl ?_
    refine V.aload_n dX2_pass_16 rfl rfl rfl ?_
    refine V.dup dX2_pass_17 rfl rfl ?_
    refine V.geti (v := (m1M e m M) e 12) dX2_pass_18 fg_X2_57 (sh_ev he) rfl rfl rfl ?_
    refine V.aload_n dX2_pass_21 rfl rfl rfl ?_
    refine V.getr dX2_pass_22 fg_X2_12 (sh_ev he) rfl rfl ?_
    refine V.aload_n dX2_pass_25 rfl rfl rfl ?_
    refine V.geti (v := nI (hN h d m)) dX2_pass_26 fg_X2_32 (sh_ev he) rfl (m1M_h h20 hd5 hh hd1) rfl ?_
    refine V.callv_i (M1 := (roG e (hN h d m) c 0 (m1M e m M) 0).1) (v := (roG e (hN h d m) c 0 (m1M e m M) 0).2) (md' := m_X4_roastAll) (As := [.int (nI (hN h d m))]) (rest := [.int ((m1M e m M) e 12), .ref e]) dX2_pass_29 ml_X2_92 mo_X4_roastAll ⟨Nat.le_of_ble_eq_true rfl, Nat.le_of_ble_eq_true rfl⟩ (sh_nu he) ⟨_, _, rfl⟩ (Nat.le_of_ble_eq_true rfl) rfl rfl (Nat.le_of_ble_eq_true rfl) (v_X4_roastAll he hc (hN_le h d m) _ (by rw [m1M_k (by omega) (by omega)]; exact h1)) rfl ?_
    refine V.iadd (v := ((m1M e m M) e 12) + ((roG e (hN h d m) c 0 (m1M e m M) 0).2)) dX2_pass_32 rfl rfl ?_
    refine V.puti dX2_pass_33 fp_X2_57 (sh_ev he) rfl rfl rfl (M' := (ms (roG e (hN h d m) c 0 (m1M e m M) 0).1 e 12 (((m1M e m M) e 12) + ((roG e (hN h d m) c 0 (m1M e m M) 0).2)))) rfl rfl ?_
    refine V.mem (M' := m2M e c m M) (by rw [m2M, m1M_h h20 hd5 hh hd1, nI_clamp (by have := hN_le h d m; omega)]) ?_
    refine V.aload_n dX2_pass_36 rfl rfl rfl ?_
    refine V.getr dX2_pass_37 fg_X2_12 (sh_ev he) rfl rfl ?_
    refine V.callv_v (M1 := m3M e c m M) (md' := m_X4_ageHeap) (As := []) (rest := []) dX2_pass_40 ml_X2_95 mo_X4_ageHeap ⟨Nat.le_of_ble_eq_true rfl, Nat.le_of_ble_eq_true rfl⟩ (sh_nu he) ⟨_, _, rfl⟩ (Nat.le_of_ble_eq_true rfl) rfl rfl (Nat.le_of_ble_eq_true rfl) (v_X4_ageHeap he hc _ (by rw [m2M_k (by omega) (by omega) (by omega) (by omega), m1M_k (by omega) (by omega)]; exact h1)) rfl ?_
    refine V.aload_n dX2_pass_43 rfl rfl rfl ?_
    refine V.geti (v := (m3M e c m M) e 10) dX2_pass_44 fg_X2_51 (sh_ev he) rfl rfl rfl ?_
    refine V.if_le (tgt := 63) dX2_pass_47 rfl rfl (fun c47 => ?_) (fun c47 => ?_)
    · skip
      refine V.aload_n dX2_pass_63 rfl rfl rfl ?_
      refine V.callv_v (M1 := serG e p c cc 0 (m3M e c m M)) (md' := m_X2_serve) (As := []) (rest := []) dX2_pass_64 ml_X2_98 mo_X2_serve ⟨Nat.le_of_ble_eq_true rfl, Nat.le_of_ble_eq_true rfl⟩ (sh_ev he) ⟨_, _, rfl⟩ (Nat.le_of_ble_eq_true rfl) rfl rfl (Nat.le_of_ble_eq_true rfl) (v_X2_serve he hc hcc hp _ (by rw [m3M_k (by omega) (by omega) (by omega) (by omega) (by omega), m1M_k (by omega) (by omega)]; exact h1) (by rw [m3M_f (by decide), m1M_f (by decide)]; exact hP) (by rw [m3M_k (by omega) (by omega) (by omega) (by omega) (by omega), m1M_k (by omega) (by omega)]; exact h7)) rfl ?_
      refine V.aload_n dX2_pass_67 rfl rfl rfl ?_
      refine V.dup dX2_pass_68 rfl rfl ?_
      refine V.geti (v := nI m) dX2_pass_69 fg_X2_42 (sh_ev he) rfl (by rw [serG_f (by decide) (by decide) (by decide), m3M_f (by decide), m1M_f (by decide)]; exact hm) rfl ?_
      refine V.iconst (v := 1) dX2_pass_72 rfl rfl ?_
      refine V.iadd (v := nI (m + 1)) dX2_pass_73 (nI_add _ _) rfl ?_
      refine V.puti dX2_pass_74 fp_X2_42 (sh_ev he) rfl rfl rfl (M' := (ms (serG e p c cc 0 (m3M e c m M)) e 7 (nI (m + 1)))) rfl rfl ?_
      refine V.inc (v := nI (i + 1)) dX2_pass_77 rfl (nI_1 _) (by decide) (L' := [(0, .ref e), (1, .int (nI n0)), (2, .int b0), (3, .int (nI (i + 1)))]) rfl rfl ?_
      refine V.goto (pc' := 7) dX2_pass_80 rfl ?_
      rw [show passG e c cc p (n + 1) m M = passG e c cc p n (m + 1) (minM e c cc p m M) from rfl, show (ms (serG e p c cc 0 (m3M e c m M)) e 7 (nI (m + 1))) = minM e c cc p m M from by rw [minM, m4M, if_neg (Int32.not_lt.mpr c47)]]
      exact ih (i + 1) (m + 1) _ (WE_min hW0) (by omega) (by omega)
    · skip
      refine V.aload_n dX2_pass_50 rfl rfl rfl ?_
      refine V.dup dX2_pass_51 rfl rfl ?_
      refine V.geti (v := (m3M e c m M) e 10) dX2_pass_52 fg_X2_51 (sh_ev he) rfl rfl rfl ?_
      refine V.iconst (v := 1) dX2_pass_55 rfl rfl ?_
      refine V.isub (v := ((m3M e c m M) e 10) - 1) dX2_pass_56 rfl rfl ?_
      refine V.puti dX2_pass_57 fp_X2_51 (sh_ev he) rfl rfl rfl (M' := (ms (m3M e c m M) e 10 (((m3M e c m M) e 10) - 1))) rfl rfl ?_
      refine V.goto (pc' := 67) dX2_pass_60 rfl ?_
      refine V.aload_n dX2_pass_67 rfl rfl rfl ?_
      refine V.dup dX2_pass_68 rfl rfl ?_
      refine V.geti (v := nI m) dX2_pass_69 fg_X2_42 (sh_ev he) rfl (by rw [ms_j (by decide), m3M_f (by decide), m1M_f (by decide)]; exact hm) rfl ?_
      refine V.iconst (v := 1) dX2_pass_72 rfl rfl ?_
      refine V.iadd (v := nI (m + 1)) dX2_pass_73 (nI_add _ _) rfl ?_
      refine V.puti dX2_pass_74 fp_X2_42 (sh_ev he) rfl rfl rfl (M' := (ms (ms (m3M e c m M) e 10 (((m3M e c m M) e 10) - 1)) e 7 (nI (m + 1)))) rfl rfl ?_
      refine V.inc (v := nI (i + 1)) dX2_pass_77 rfl (nI_1 _) (by decide) (L' := [(0, .ref e), (1, .int (nI n0)), (2, .int b0), (3, .int (nI (i + 1)))]) rfl rfl ?_
      refine V.goto (pc' := 7) dX2_pass_80 rfl ?_
      rw [show passG e c cc p (n + 1) m M = passG e c cc p n (m + 1) (minM e c cc p m M) from rfl, show (ms (ms (m3M e c m M) e 10 (((m3M e c m M) e 10) - 1)) e 7 (nI (m + 1))) = minM e c cc p m M from by rw [minM, m4M, if_pos (Int32.not_le.mp c47)]]
      exact ih (i + 1) (m + 1) _ (WE_min hW0) (by omega) (by omega)
theorem v_X2_pass {e : Nat} (he : isE e) {c : Nat} (hc : c ≤ 10) {cc : Nat} (hcc : cc ≤ 12) {p : Nat} (hp : p ≤ 100) (n : Nat) (hn0 : n ≤ 1000) (m : Nat) (M : Mem) (hW : WE e c cc p m M) (hmn : m + n ≤ 5000) : V m_X2_pass 0 [(0, .ref e), (1, .int (nI n))] [] M (RT (some (.int (passG e c cc p n m M e 8 - M e 8))) (passG e c cc p n m M)) := by
  refine V.aload_n dX2_pass_0 rfl rfl rfl ?_
  refine V.geti (v := M e 8) dX2_pass_1 fg_X2_45 (sh_ev he) rfl rfl rfl ?_
  refine V.ist_n dX2_pass_4 rfl (by decide) (L' := [(0, .ref e), (1, .int (nI n)), (2, .int (M e 8))]) rfl rfl ?_
  refine V.iconst (v := 0) dX2_pass_5 rfl rfl ?_
  refine V.ist_n dX2_pass_6 rfl (by decide) (L' := [(0, .ref e), (1, .int (nI n)), (2, .int (M e 8)), (3, .int 0)]) rfl rfl ?_
  exact l_X2_pass he hc hcc hp n hn0 _ n 0 m M hW hmn (by omega)
