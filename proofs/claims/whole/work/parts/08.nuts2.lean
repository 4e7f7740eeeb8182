/-! Nuts, the rest: roastAll, ageHeap, youngest, hasRoom, become; Crowds; bitCount -/
def roStep (e hn b : Nat) (M : Mem) : Mem := if M (e+6) b = 1 then (if M (e+2) b = 4 ∧ 60 ≤ rbM e b (heatsF (M (e+2) b) (nI hn)) M (e+4) b ∧ 8 ≤ nI hn then layM e b 4 (rbM e b (heatsF (M (e+2) b) (nI hn)) M) else rbM e b (heatsF (M (e+2) b) (nI hn)) M) else if M (e+6) b = 2 then rbM e b (heatsF (M (e+2) b) (nI (hn / 2))) M else M
def roW (e hn b : Nat) (M : Mem) (w : Int32) : Int32 := if M (e+6) b = 1 ∧ M (e+2) b = 4 ∧ 60 ≤ rbM e b (heatsF (M (e+2) b) (nI hn)) M (e+4) b ∧ 8 ≤ nI hn then w + M (e+3) b else w
def roG (e hn : Nat) : Nat → Nat → Mem → Int32 → Mem × Int32
  | 0, _, M, w => (M, w)
  | n + 1, i, M, w => roG e hn n (i + 1) (roStep e hn i M) (roW e hn i M w)
theorem rb_k {e b a : Nat} {m : Int32} {M : Mem} (h : a ≠ e + 4) : rbM e b m M a = M a := by simp [rbM, ms_k h]
theorem lay4_k {e b a j : Nat} {M : Mem} (h1 : a ≠ e + 6) (h2 : a ≠ e + 3) : layM e b 4 M a j = M a j := by simp [layM, ms, h1, h2]
theorem l_X4_roastAll {e : Nat} (he : isE e) {c : Nat} (hc : c ≤ 10) {hn : Nat} (hh : hn ≤ 20) : ∀ (n i : Nat) (M : Mem) (w : Int32), M (e+1) 5 = nI c → i + n = c → V m_X4_roastAll 4 [(0, .ref (e+1)), (1, .int (nI hn)), (2, .int w), (3, .int (nI i))] [] M (RT (some (.int ((roG e hn n i M w).2))) ((roG e hn n i M w).1)) := by
  intro n
  induction n with
  | zero =>
    intro i M w hM hi
    refine V.iload_n dX4_roastAll_4 rfl rfl rfl ?_
    refine V.aload_n dX4_roastAll_5 rfl rfl rfl ?_
    refine V.geti (v := nI c) dX4_roastAll_6 fg_X4_27 (sh_nu he) rfl hM rfl ?_
    refine V.icmp_ge (tgt := 101) dX4_roastAll_9 rfl rfl (fun c9 => ?_) (fun c9 => absurd ((nI_leI (a := c) (b := i) (by omega) (by omega)).mpr (by omega)) c9)
    have c9 : c ≤ i := (nI_leI (a := c) (b := i) (by omega) (by omega)).mp c9
    refine V.iload_n dX4_roastAll_101 rfl rfl rfl ?_
    exact V.ret dX4_roastAll_102 rfl rfl ⟨rfl, rfl⟩
  | succ n ih =>
    intro i M w hM hi
    refine V.iload_n dX4_roastAll_4 rfl rfl rfl ?_
    refine V.aload_n dX4_roastAll_5 rfl rfl rfl ?_
    refine V.geti (v := nI c) dX4_roastAll_6 fg_X4_27 (sh_nu he) rfl hM rfl ?_
    refine V.icmp_ge (tgt := 101) dX4_roastAll_9 rfl rfl (fun c9 => absurd ((nI_leI (a := c) (b := i) (by omega) (by omega)).mp c9) (by omega)) (fun c9 => ?_)
    have c9 : ¬ c ≤ i := fun q => c9 ((nI_leI (a := c) (b := i) (by omega) (by omega)).mpr q)
    refine V.aload_n dX4_roastAll_12 rfl rfl rfl ?_
    refine V.getr dX4_roastAll_13 fg_X4_24 (sh_nu he) rfl rfl ?_
    refine V.iload_n dX4_roastAll_16 rfl rfl rfl ?_
    refine V.ialdN (j := i) (v := M (e+6) i) dX4_roastAll_17 (sh_a6 he) (by omega) (by decide) rfl rfl rfl ?_
    refine V.iconst (v := 1) dX4_roastAll_18 rfl rfl ?_
    refine V.icmp_ne (tgt := 68) dX4_roastAll_19 rfl rfl (fun c19 => ?_) (fun c19 => ?_)
    · skip
      refine V.aload_n dX4_roastAll_68 rfl rfl rfl ?_
      refine V.getr dX4_roastAll_69 fg_X4_24 (sh_nu he) rfl rfl ?_
      refine V.iload_n dX4_roastAll_72 rfl rfl rfl ?_
      refine V.ialdN (j := i) (v := M (e+6) i) dX4_roastAll_73 (sh_a6 he) (by omega) (by decide) rfl rfl rfl ?_
      refine V.iconst (v := 2) dX4_roastAll_74 rfl rfl ?_
      refine V.icmp_ne (tgt := 95) dX4_roastAll_75 rfl rfl (fun c75 => ?_) (fun c75 => ?_)
      · skip
        refine V.inc (v := nI (i + 1)) dX4_roastAll_95 rfl (nI_1 _) (by decide) (L' := [(0, .ref (e+1)), (1, .int (nI hn)), (2, .int w), (3, .int (nI (i + 1)))]) rfl rfl ?_
        refine V.goto (pc' := 4) dX4_roastAll_98 rfl ?_
        have e1 : roStep e hn i M = M := by simp only [roStep]; rw [if_neg c19, if_neg c75]
        have e2 : roW e hn i M w = w := by simp only [roW]; rw [if_neg (fun q => c19 q.1)]
        rw [show roG e hn (n + 1) i M w = roG e hn n (i + 1) M w from by show roG e hn n (i + 1) (roStep e hn i M) (roW e hn i M w) = _; rw [e1, e2]]
        exact ih (i + 1) _ _ (by simp [rb_k, lay4_k, hM]) (by omega)
      · skip
        refine V.aload_n dX4_roastAll_78 rfl rfl rfl ?_
        refine V.iload_n dX4_roastAll_79 rfl rfl rfl ?_
        refine V.aload_n dX4_roastAll_80 rfl rfl rfl ?_
        refine V.getr dX4_roastAll_81 fg_X4_9 (sh_nu he) rfl rfl ?_
        refine V.iload_n dX4_roastAll_84 rfl rfl rfl ?_
        refine V.ialdN (j := i) (v := M (e+2) i) dX4_roastAll_85 (sh_a2 he) (by omega) (by decide) rfl rfl rfl ?_
        refine V.iload_n dX4_roastAll_86 rfl rfl rfl ?_
        refine V.iconst (v := 2) dX4_roastAll_87 rfl rfl ?_
        refine V.idiv (v := nI (hn / 2)) dX4_roastAll_88 (by decide) (pk_div (by omega) (by decide) (by decide)) rfl ?_
        refine V.calls_i (M1 := M) (v := heatsF (M (e+2) i) (nI (hn / 2))) (md' := m_X3_heatsOf) (As := [.int (M (e+2) i), .int (nI (hn / 2))]) (rest := [.int (nI i), .ref (e+1)]) dX4_roastAll_89 ml_X4_54 mo_X3_heatsOf ⟨Nat.le_of_ble_eq_true rfl, Nat.le_of_ble_eq_true rfl⟩ (Nat.le_of_ble_eq_true rfl) rfl rfl (Nat.le_of_ble_eq_true rfl) (v_X3_heatsOf (M (e+2) i) (n := hn / 2) (by omega) _) rfl ?_
        refine V.callv_v (M1 := rbM e i (heatsF (M (e+2) i) (nI (hn / 2))) M) (md' := m_X4_roastBy) (As := [.int (nI i), .int (heatsF (M (e+2) i) (nI (hn / 2)))]) (rest := []) dX4_roastAll_92 ml_X4_58 mo_X4_roastBy ⟨Nat.le_of_ble_eq_true rfl, Nat.le_of_ble_eq_true rfl⟩ (sh_nu he) ⟨_, _, rfl⟩ (Nat.le_of_ble_eq_true rfl) rfl rfl (Nat.le_of_ble_eq_true rfl) (v_X4_roastBy he (b := i) (by omega) _ _) rfl ?_
        refine V.inc (v := nI (i + 1)) dX4_roastAll_95 rfl (nI_1 _) (by decide) (L' := [(0, .ref (e+1)), (1, .int (nI hn)), (2, .int w), (3, .int (nI (i + 1)))]) rfl rfl ?_
        refine V.goto (pc' := 4) dX4_roastAll_98 rfl ?_
        have e1 : roStep e hn i M = rbM e i (heatsF (M (e+2) i) (nI (hn / 2))) M := by simp only [roStep]; rw [if_neg c19, if_pos c75]
        have e2 : roW e hn i M w = w := by simp only [roW]; rw [if_neg (fun q => c19 q.1)]
        rw [show roG e hn (n + 1) i M w = roG e hn n (i + 1) (rbM e i (heatsF (M (e+2) i) (nI (hn / 2))) M) w from by show roG e hn n (i + 1) (roStep e hn i M) (roW e hn i M w) = _; rw [e1, e2]]
        exact ih (i + 1) _ _ (by simp [rb_k, lay4_k, hM]) (by omega)
    · skip
      refine V.aload_n dX4_roastAll_22 rfl rfl rfl ?_
      refine V.iload_n dX4_roastAll_23 rfl rfl rfl ?_
      refine V.aload_n dX4_roastAll_24 rfl rfl rfl ?_
      refine V.getr dX4_roastAll_25 fg_X4_9 (sh_nu he) rfl rfl ?_
      refine V.iload_n dX4_roastAll_28 rfl rfl rfl ?_
      refine V.ialdN (j := i) (v := M (e+2) i) dX4_roastAll_29 (sh_a2 he) (by omega) (by decide) rfl rfl rfl ?_
      refine V.iload_n dX4_roastAll_30 rfl rfl rfl ?_
      refine V.calls_i (M1 := M) (v := heatsF (M (e+2) i) (nI hn)) (md' := m_X3_heatsOf) (As := [.int (M (e+2) i), .int (nI hn)]) (rest := [.int (nI i), .ref (e+1)]) dX4_roastAll_31 ml_X4_54 mo_X3_heatsOf ⟨Nat.le_of_ble_eq_true rfl, Nat.le_of_ble_eq_true rfl⟩ (Nat.le_of_ble_eq_true rfl) rfl rfl (Nat.le_of_ble_eq_true rfl) (v_X3_heatsOf (M (e+2) i) (n := hn) (by omega) _) rfl ?_
      refine V.callv_v (M1 := rbM e i (heatsF (M (e+2) i) (nI hn)) M) (md' := m_X4_roastBy) (As := [.int (nI i), .int (heatsF (M (e+2) i) (nI hn))]) (rest := []) dX4_roastAll_34 ml_X4_58 mo_X4_roastBy ⟨Nat.le_of_ble_eq_true rfl, Nat.le_of_ble_eq_true rfl⟩ (sh_nu he) ⟨_, _, rfl⟩ (Nat.le_of_ble_eq_true rfl) rfl rfl (Nat.le_of_ble_eq_true rfl) (v_X4_roastBy he (b := i) (by omega) _ _) rfl ?_
      refine V.aload_n dX4_roastAll_37 rfl rfl rfl ?_
      refine V.getr dX4_roastAll_38 fg_X4_9 (sh_nu he) rfl rfl ?_
      refine V.iload_n dX4_roastAll_41 rfl rfl rfl ?_
      refine V.ialdN (j := i) (v := M (e+2) i) dX4_roastAll_42 (sh_a2 he) (by omega) (by decide) rfl (by simp [rb_k]) rfl ?_
      refine V.aload_n dX4_roastAll_43 rfl rfl rfl ?_
      refine V.getr dX4_roastAll_44 fg_X4_18 (sh_nu he) rfl rfl ?_
      refine V.iload_n dX4_roastAll_47 rfl rfl rfl ?_
      refine V.ialdN (j := i) (v := (rbM e i (heatsF (M (e+2) i) (nI hn)) M) (e+4) i) dX4_roastAll_48 (sh_a4 he) (by omega) (by decide) rfl rfl rfl ?_
      refine V.iload_n dX4_roastAll_49 rfl rfl rfl ?_
      refine V.calls_i (M1 := rbM e i (heatsF (M (e+2) i) (nI hn)) M) (v := if M (e+2) i = 4 ∧ 60 ≤ (rbM e i (heatsF (M (e+2) i) (nI hn)) M) (e+4) i ∧ 8 ≤ nI hn then 1 else 0) (md' := m_X3_bursts) (As := [.int (M (e+2) i), .int ((rbM e i (heatsF (M (e+2) i) (nI hn)) M) (e+4) i), .int (nI hn)]) (rest := []) dX4_roastAll_50 ml_X4_62 mo_X3_bursts ⟨Nat.le_of_ble_eq_true rfl, Nat.le_of_ble_eq_true rfl⟩ (Nat.le_of_ble_eq_true rfl) rfl rfl (Nat.le_of_ble_eq_true rfl) (v_X3_bursts _ _ _ _) rfl ?_
      refine V.ifb_eq (tgt := 95) dX4_roastAll_53 rfl rfl (fun c53 => ?_) (fun c53 => ?_)
      · skip
        refine V.inc (v := nI (i + 1)) dX4_roastAll_95 rfl (nI_1 _) (by decide) (L' := [(0, .ref (e+1)), (1, .int (nI hn)), (2, .int w), (3, .int (nI (i + 1)))]) rfl rfl ?_
        refine V.goto (pc' := 4) dX4_roastAll_98 rfl ?_
        have e1 : roStep e hn i M = rbM e i (heatsF (M (e+2) i) (nI hn)) M := by simp only [roStep]; rw [if_pos c19, if_neg c53]
        have e2 : roW e hn i M w = w := by simp only [roW]; rw [if_neg (fun q => c53 q.2)]
        rw [show roG e hn (n + 1) i M w = roG e hn n (i + 1) (rbM e i (heatsF (M (e+2) i) (nI hn)) M) w from by show roG e hn n (i + 1) (roStep e hn i M) (roW e hn i M w) = _; rw [e1, e2]]
        exact ih (i + 1) _ _ (by simp [rb_k, lay4_k, hM]) (by omega)
      · skip
        refine V.iload_n dX4_roastAll_56 rfl rfl rfl ?_
        refine V.aload_n dX4_roastAll_57 rfl rfl rfl ?_
        refine V.iload_n dX4_roastAll_58 rfl rfl rfl ?_
        refine V.iconst (v := 4) dX4_roastAll_59 rfl rfl ?_
        refine V.callv_i (M1 := layM e i 4 (rbM e i (heatsF (M (e+2) i) (nI hn)) M)) (v := layV e i 4 (rbM e i (heatsF (M (e+2) i) (nI hn)) M)) (md' := m_X4_lay) (As := [.int (nI i), .int 4]) (rest := [.int w]) dX4_roastAll_60 ml_X4_66 mo_X4_lay ⟨Nat.le_of_ble_eq_true rfl, Nat.le_of_ble_eq_true rfl⟩ (sh_nu he) ⟨_, _, rfl⟩ (Nat.le_of_ble_eq_true rfl) rfl rfl (Nat.le_of_ble_eq_true rfl) (v_X4_lay he (b := i) (by omega) _ _) rfl ?_
        refine V.iadd (v := w + (layV e i 4 (rbM e i (heatsF (M (e+2) i) (nI hn)) M))) dX4_roastAll_63 rfl rfl ?_
        refine V.ist_n dX4_roastAll_64 rfl (by decide) (L' := [(0, .ref (e+1)), (1, .int (nI hn)), (2, .int (w + (layV e i 4 (rbM e i (heatsF (M (e+2) i) (nI hn)) M)))), (3, .int (nI i))]) rfl rfl ?_
        refine V.goto (pc' := 95) dX4_roastAll_65 rfl ?_
        refine V.inc (v := nI (i + 1)) dX4_roastAll_95 rfl (nI_1 _) (by decide) (L' := [(0, .ref (e+1)), (1, .int (nI hn)), (2, .int (w + (layV e i 4 (rbM e i (heatsF (M (e+2) i) (nI hn)) M)))), (3, .int (nI (i + 1)))]) rfl rfl ?_
        refine V.goto (pc' := 4) dX4_roastAll_98 rfl ?_
        have e1 : roStep e hn i M = layM e i 4 (rbM e i (heatsF (M (e+2) i) (nI hn)) M) := by simp only [roStep]; rw [if_pos c19, if_pos c53]
        have e2 : roW e hn i M w = w + (layV e i 4 (rbM e i (heatsF (M (e+2) i) (nI hn)) M)) := by simp only [roW]; rw [if_pos ⟨c19, c53⟩]; simp [layV, rb_k]
        rw [show roG e hn (n + 1) i M w = roG e hn n (i + 1) (layM e i 4 (rbM e i (heatsF (M (e+2) i) (nI hn)) M)) (w + (layV e i 4 (rbM e i (heatsF (M (e+2) i) (nI hn)) M))) from by show roG e hn n (i + 1) (roStep e hn i M) (roW e hn i M w) = _; rw [e1, e2]]
        exact ih (i + 1) _ _ (by simp [rb_k, lay4_k, hM]) (by omega)
theorem v_X4_roastAll {e : Nat} (he : isE e) {c : Nat} (hc : c ≤ 10) {hn : Nat} (hh : hn ≤ 20) (M : Mem) (hM : M (e+1) 5 = nI c) : V m_X4_roastAll 0 [(0, .ref (e+1)), (1, .int (nI hn))] [] M (RT (some (.int ((roG e hn c 0 M 0).2))) ((roG e hn c 0 M 0).1)) := by
  refine V.iconst (v := 0) dX4_roastAll_0 rfl rfl ?_
  refine V.ist_n dX4_roastAll_1 rfl (by decide) (L' := [(0, .ref (e+1)), (1, .int (nI hn)), (2, .int 0)]) rfl rfl ?_
  refine V.iconst (v := 0) dX4_roastAll_2 rfl rfl ?_
  refine V.ist_n dX4_roastAll_3 rfl (by decide) (L' := [(0, .ref (e+1)), (1, .int (nI hn)), (2, .int 0), (3, .int 0)]) rfl rfl ?_
  exact l_X4_roastAll he hc hh c 0 M 0 hM (by omega)
def agG (e : Nat) : Nat → Nat → Mem → Mem
  | 0, _, M => M
  | n + 1, i, M => agG e n (i + 1) (if M (e+6) i = 3 then ms M (e+5) i (M (e+5) i + 1) else M)
theorem l_X4_ageHeap {e : Nat} (he : isE e) {c : Nat} (hc : c ≤ 10) : ∀ (n i : Nat) (M : Mem), M (e+1) 5 = nI c → i + n = c → V m_X4_ageHeap 2 [(0, .ref (e+1)), (1, .int (nI i))] [] M (RT none (agG e n i M)) := by
  intro n
  induction n with
  | zero =>
    intro i M hM hi
    refine V.iload_n dX4_ageHeap_2 rfl rfl rfl ?_
    refine V.aload_n dX4_ageHeap_3 rfl rfl rfl ?_
    refine V.geti (v := nI c) dX4_ageHeap_4 fg_X4_27 (sh_nu he) rfl hM rfl ?_
    refine V.icmp_ge (tgt := 36) dX4_ageHeap_7 rfl rfl (fun c7 => ?_) (fun c7 => absurd ((nI_leI (a := c) (b := i) (by omega) (by omega)).mpr (by omega)) c7)
    have c7 : c ≤ i := (nI_leI (a := c) (b := i) (by omega) (by omega)).mp c7
    exact V.vret dX4_ageHeap_36 rfl ⟨rfl, rfl⟩
  | succ n ih =>
    intro i M hM hi
    refine V.iload_n dX4_ageHeap_2 rfl rfl rfl ?_
    refine V.aload_n dX4_ageHeap_3 rfl rfl rfl ?_
    refine V.geti (v := nI c) dX4_ageHeap_4 fg_X4_27 (sh_nu he) rfl hM rfl ?_
    refine V.icmp_ge (tgt := 36) dX4_ageHeap_7 rfl rfl (fun c7 => absurd ((nI_leI (a := c) (b := i) (by omega) (by omega)).mp c7) (by omega)) (fun c7 => ?_)
    have c7 : ¬ c ≤ i := fun q => c7 ((nI_leI (a := c) (b := i) (by omega) (by omega)).mpr q)
    refine V.aload_n dX4_ageHeap_10 rfl rfl rfl ?_
    refine V.getr dX4_ageHeap_11 fg_X4_24 (sh_nu he) rfl rfl ?_
    refine V.iload_n dX4_ageHeap_14 rfl rfl rfl ?_
    refine V.ialdN (j := i) (v := M (e+6) i) dX4_ageHeap_15 (sh_a6 he) (by omega) (by decide) rfl rfl rfl ?_
    refine V.iconst (v := 3) dX4_ageHeap_16 rfl rfl ?_
    refine V.icmp_ne (tgt := 30) dX4_ageHeap_17 rfl rfl (fun c17 => ?_) (fun c17 => ?_)
    · skip
      refine V.inc (v := nI (i + 1)) dX4_ageHeap_30 rfl (nI_1 _) (by decide) (L' := [(0, .ref (e+1)), (1, .int (nI (i + 1)))]) rfl rfl ?_
      refine V.goto (pc' := 2) dX4_ageHeap_33 rfl ?_
      rw [show agG e (n + 1) i M = agG e n (i + 1) M from by simp [agG, c7, c17]]
      exact ih (i + 1) _ (by simp [ms, hM]) (by omega)
    · skip
      refine V.aload_n dX4_ageHeap_20 rfl rfl rfl ?_
      refine V.getr dX4_ageHeap_21 fg_X4_21 (sh_nu he) rfl rfl ?_
      refine V.iload_n dX4_ageHeap_24 rfl rfl rfl ?_
      refine V.dup2 dX4_ageHeap_25 rfl rfl rfl ?_
      refine V.ialdN (j := i) (v := M (e+5) i) dX4_ageHeap_26 (sh_a5 he) (by omega) (by decide) rfl rfl rfl ?_
      refine V.iconst (v := 1) dX4_ageHeap_27 rfl rfl ?_
      refine V.iadd (v := (M (e+5) i) + 1) dX4_ageHeap_28 rfl rfl ?_
      refine V.iastN (j := i) dX4_ageHeap_29 (sh_a5 he) (by omega) (by decide) rfl (M' := (ms M (e+5) i ((M (e+5) i) + 1))) rfl rfl ?_
      refine V.inc (v := nI (i + 1)) dX4_ageHeap_30 rfl (nI_1 _) (by decide) (L' := [(0, .ref (e+1)), (1, .int (nI (i + 1)))]) rfl rfl ?_
      refine V.goto (pc' := 2) dX4_ageHeap_33 rfl ?_
      rw [show agG e (n + 1) i M = agG e n (i + 1) (ms M (e+5) i ((M (e+5) i) + 1)) from by simp [agG, c7, c17]]
      exact ih (i + 1) _ (by simp [ms, hM]) (by omega)
theorem v_X4_ageHeap {e : Nat} (he : isE e) {c : Nat} (hc : c ≤ 10) (M : Mem) (hM : M (e+1) 5 = nI c) : V m_X4_ageHeap 0 [(0, .ref (e+1))] [] M (RT none (agG e c 0 M)) := by
  refine V.iconst (v := 0) dX4_ageHeap_0 rfl rfl ?_
  refine V.ist_n dX4_ageHeap_1 rfl (by decide) (L' := [(0, .ref (e+1)), (1, .int 0)]) rfl rfl ?_
  exact l_X4_ageHeap he hc c 0 M hM (by omega)
def bI : Option Nat → Int32
  | none => -1
  | some j => nI j
def yoP (kd bg ro ag pl : Nat → Int32) (fr to_ : Int32) (i : Nat) : Prop := pl i = 3 ∧ 0 < bg i ∧ fr ≤ ag i ∧ ag i ≤ to_ ∧ readyF (kd i) ≤ ro i ∧ ro i < burntF (kd i)
def yoG (kd bg ro ag pl : Nat → Int32) (fr to_ : Int32) : Nat → Nat → Option Nat → Option Nat
  | 0, _, o => o
  | n + 1, i, o => yoG kd bg ro ag pl fr to_ n (i + 1) (match o with
    | none => (if (pl i = 3 ∧ 0 < bg i ∧ fr ≤ ag i ∧ ag i ≤ to_ ∧ readyF (kd i) ≤ ro i ∧ ro i < burntF (kd i)) then some i else none)
    | some j => (if (pl i = 3 ∧ 0 < bg i ∧ fr ≤ ag i ∧ ag i ≤ to_ ∧ readyF (kd i) ≤ ro i ∧ ro i < burntF (kd i)) ∧ ag i < ag j then some i else some j))
theorem l_X4_youngest {e : Nat} (he : isE e) {c : Nat} (hc : c ≤ 10) (fr to_ : Int32) (M : Mem) (hM : M (e+1) 5 = nI c) : ∀ (n i : Nat) (o : Option Nat), (∀ j, o = some j → j < i) → i + n = c → V m_X4_youngest 5 [(0, .ref (e+1)), (1, .int fr), (2, .int to_), (3, .int (bI o)), (4, .int (nI i))] [] M (RT (some (.int (bI (yoG (M (e+2)) (M (e+3)) (M (e+4)) (M (e+5)) (M (e+6)) fr to_ n i o)))) M) := by
  intro n
  induction n with
  | zero =>
    intro i o ho hi
    refine V.iload dX4_youngest_5 rfl rfl ?_
    refine V.aload_n dX4_youngest_7 rfl rfl rfl ?_
    refine V.geti (v := nI c) dX4_youngest_8 fg_X4_27 (sh_nu he) rfl hM rfl ?_
    refine V.icmp_ge (tgt := 138) dX4_youngest_11 rfl rfl (fun c11 => ?_) (fun c11 => absurd ((nI_leI (a := c) (b := i) (by omega) (by omega)).mpr (by omega)) c11)
    have c11 : c ≤ i := (nI_leI (a := c) (b := i) (by omega) (by omega)).mp c11
    refine V.iload_n dX4_youngest_138 rfl rfl rfl ?_
    exact V.ret dX4_youngest_139 rfl rfl ⟨rfl, rfl⟩
  | succ n ih =>
    intro i o ho hi
    rcases o with _ | j
    · refine V.iload dX4_youngest_5 rfl rfl ?_
      refine V.aload_n dX4_youngest_7 rfl rfl rfl ?_
      refine V.geti (v := nI c) dX4_youngest_8 fg_X4_27 (sh_nu he) rfl hM rfl ?_
      refine V.icmp_ge (tgt := 138) dX4_youngest_11 rfl rfl (fun c11 => absurd ((nI_leI (a := c) (b := i) (by omega) (by omega)).mp c11) (by omega)) (fun c11 => ?_)
      have c11 : ¬ c ≤ i := fun q => c11 ((nI_leI (a := c) (b := i) (by omega) (by omega)).mpr q)
      refine V.aload_n dX4_youngest_14 rfl rfl rfl ?_
      refine V.getr dX4_youngest_15 fg_X4_24 (sh_nu he) rfl rfl ?_
      refine V.iload dX4_youngest_18 rfl rfl ?_
      refine V.ialdN (j := i) (v := M (e+6) i) dX4_youngest_20 (sh_a6 he) (by omega) (by decide) rfl rfl rfl ?_
      refine V.iconst (v := 3) dX4_youngest_21 rfl rfl ?_
      refine V.icmp_ne (tgt := 101) dX4_youngest_22 rfl rfl (fun c22 => ?_) (fun c22 => ?_)
      · skip
        refine V.iconst (v := 0) dX4_youngest_101 rfl rfl ?_
        refine V.ist dX4_youngest_102 (by decide) (L' := [(0, .ref (e+1)), (1, .int fr), (2, .int to_), (3, .int (-1)), (4, .int (nI i)), (5, .int 0)]) rfl rfl ?_
        refine V.iload dX4_youngest_104 rfl rfl ?_
        refine V.if_eq (tgt := 132) dX4_youngest_106 rfl rfl (fun _ => ?_) (fun c106 => absurd c106 (by decide))
        refine V.inc (v := nI (i + 1)) dX4_youngest_132 rfl (nI_1 _) (by decide) (L' := [(0, .ref (e+1)), (1, .int fr), (2, .int to_), (3, .int (-1)), (4, .int (nI (i + 1))), (5, .int 0)]) rfl rfl ?_
        refine V.goto (pc' := 5) dX4_youngest_135 rfl ?_
        refine V.loc (L' := [(0, .ref (e+1)), (1, .int fr), (2, .int to_), (3, .int (-1)), (4, .int (nI (i + 1)))]) (fun q h => List.mem_append_left [(5, Value.int 0)] h) ?_
        rw [show yoG (M (e+2)) (M (e+3)) (M (e+4)) (M (e+5)) (M (e+6)) fr to_ (n + 1) i none = yoG (M (e+2)) (M (e+3)) (M (e+4)) (M (e+5)) (M (e+6)) fr to_ n (i + 1) (none) from (by simp only [yoG]; rw [if_neg (fun q => c22 q.1)])]
        exact ih (i + 1) (none) (fun j q => by cases q) (by omega)
      · skip
        refine V.aload_n dX4_youngest_25 rfl rfl rfl ?_
        refine V.getr dX4_youngest_26 fg_X4_15 (sh_nu he) rfl rfl ?_
        refine V.iload dX4_youngest_29 rfl rfl ?_
        refine V.ialdN (j := i) (v := M (e+3) i) dX4_youngest_31 (sh_a3 he) (by omega) (by decide) rfl rfl rfl ?_
        refine V.if_le (tgt := 101) dX4_youngest_32 rfl rfl (fun c32 => ?_) (fun c32 => ?_)
        · have c32 : ¬ 0 < M (e+3) i := Int32.not_lt.mpr c32
          refine V.iconst (v := 0) dX4_youngest_101 rfl rfl ?_
          refine V.ist dX4_youngest_102 (by decide) (L' := [(0, .ref (e+1)), (1, .int fr), (2, .int to_), (3, .int (-1)), (4, .int (nI i)), (5, .int 0)]) rfl rfl ?_
          refine V.iload dX4_youngest_104 rfl rfl ?_
          refine V.if_eq (tgt := 132) dX4_youngest_106 rfl rfl (fun _ => ?_) (fun c106 => absurd c106 (by decide))
          refine V.inc (v := nI (i + 1)) dX4_youngest_132 rfl (nI_1 _) (by decide) (L' := [(0, .ref (e+1)), (1, .int fr), (2, .int to_), (3, .int (-1)), (4, .int (nI (i + 1))), (5, .int 0)]) rfl rfl ?_
          refine V.goto (pc' := 5) dX4_youngest_135 rfl ?_
          refine V.loc (L' := [(0, .ref (e+1)), (1, .int fr), (2, .int to_), (3, .int (-1)), (4, .int (nI (i + 1)))]) (fun q h => List.mem_append_left [(5, Value.int 0)] h) ?_
          rw [show yoG (M (e+2)) (M (e+3)) (M (e+4)) (M (e+5)) (M (e+6)) fr to_ (n + 1) i none = yoG (M (e+2)) (M (e+3)) (M (e+4)) (M (e+5)) (M (e+6)) fr to_ n (i + 1) (none) from (by simp only [yoG]; rw [if_neg (fun q => c32 q.2.1)])]
          exact ih (i + 1) (none) (fun j q => by cases q) (by omega)
        · have c32 : 0 < M (e+3) i := Int32.not_le.mp c32
          refine V.aload_n dX4_youngest_35 rfl rfl rfl ?_
          refine V.getr dX4_youngest_36 fg_X4_21 (sh_nu he) rfl rfl ?_
          refine V.iload dX4_youngest_39 rfl rfl ?_
          refine V.ialdN (j := i) (v := M (e+5) i) dX4_youngest_41 (sh_a5 he) (by omega) (by decide) rfl rfl rfl ?_
          refine V.iload_n dX4_youngest_42 rfl rfl rfl ?_
          refine V.icmp_lt (tgt := 101) dX4_youngest_43 rfl rfl (fun c43 => ?_) (fun c43 => ?_)
          · have c43 : ¬ fr ≤ M (e+5) i := Int32.not_le.mpr c43
            refine V.iconst (v := 0) dX4_youngest_101 rfl rfl ?_
            refine V.ist dX4_youngest_102 (by decide) (L' := [(0, .ref (e+1)), (1, .int fr), (2, .int to_), (3, .int (-1)), (4, .int (nI i)), (5, .int 0)]) rfl rfl ?_
            refine V.iload dX4_youngest_104 rfl rfl ?_
            refine V.if_eq (tgt := 132) dX4_youngest_106 rfl rfl (fun _ => ?_) (fun c106 => absurd c106 (by decide))
            refine V.inc (v := nI (i + 1)) dX4_youngest_132 rfl (nI_1 _) (by decide) (L' := [(0, .ref (e+1)), (1, .int fr), (2, .int to_), (3, .int (-1)), (4, .int (nI (i + 1))), (5, .int 0)]) rfl rfl ?_
            refine V.goto (pc' := 5) dX4_youngest_135 rfl ?_
            refine V.loc (L' := [(0, .ref (e+1)), (1, .int fr), (2, .int to_), (3, .int (-1)), (4, .int (nI (i + 1)))]) (fun q h => List.mem_append_left [(5, Value.int 0)] h) ?_
            rw [show yoG (M (e+2)) (M (e+3)) (M (e+4)) (M (e+5)) (M (e+6)) fr to_ (n + 1) i none = yoG (M (e+2)) (M (e+3)) (M (e+4)) (M (e+5)) (M (e+6)) fr to_ n (i + 1) (none) from (by simp only [yoG]; rw [if_neg (fun q => c43 q.2.2.1)])]
            exact ih (i + 1) (none) (fun j q => by cases q) (by omega)
          · have c43 : fr ≤ M (e+5) i := Int32.not_lt.mp c43
            refine V.aload_n dX4_youngest_46 rfl rfl rfl ?_
            refine V.getr dX4_youngest_47 fg_X4_21 (sh_nu he) rfl rfl ?_
            refine V.iload dX4_youngest_50 rfl rfl ?_
            refine V.ialdN (j := i) (v := M (e+5) i) dX4_youngest_52 (sh_a5 he) (by omega) (by decide) rfl rfl rfl ?_
            refine V.iload_n dX4_youngest_53 rfl rfl rfl ?_
            refine V.icmp_gt (tgt := 101) dX4_youngest_54 rfl rfl (fun c54 => ?_) (fun c54 => ?_)
            · have c54 : ¬ M (e+5) i ≤ to_ := Int32.not_le.mpr c54
              refine V.iconst (v := 0) dX4_youngest_101 rfl rfl ?_
              refine V.ist dX4_youngest_102 (by decide) (L' := [(0, .ref (e+1)), (1, .int fr), (2, .int to_), (3, .int (-1)), (4, .int (nI i)), (5, .int 0)]) rfl rfl ?_
              refine V.iload dX4_youngest_104 rfl rfl ?_
              refine V.if_eq (tgt := 132) dX4_youngest_106 rfl rfl (fun _ => ?_) (fun c106 => absurd c106 (by decide))
              refine V.inc (v := nI (i + 1)) dX4_youngest_132 rfl (nI_1 _) (by decide) (L' := [(0, .ref (e+1)), (1, .int fr), (2, .int to_), (3, .int (-1)), (4, .int (nI (i + 1))), (5, .int 0)]) rfl rfl ?_
              refine V.goto (pc' := 5) dX4_youngest_135 rfl ?_
              refine V.loc (L' := [(0, .ref (e+1)), (1, .int fr), (2, .int to_), (3, .int (-1)), (4, .int (nI (i + 1)))]) (fun q h => List.mem_append_left [(5, Value.int 0)] h) ?_
              rw [show yoG (M (e+2)) (M (e+3)) (M (e+4)) (M (e+5)) (M (e+6)) fr to_ (n + 1) i none = yoG (M (e+2)) (M (e+3)) (M (e+4)) (M (e+5)) (M (e+6)) fr to_ n (i + 1) (none) from (by simp only [yoG]; rw [if_neg (fun q => c54 q.2.2.2.1)])]
              exact ih (i + 1) (none) (fun j q => by cases q) (by omega)
            · have c54 : M (e+5) i ≤ to_ := Int32.not_lt.mp c54
              refine V.aload_n dX4_youngest_57 rfl rfl rfl ?_
              refine V.getr dX4_youngest_58 fg_X4_18 (sh_nu he) rfl rfl ?_
              refine V.iload dX4_youngest_61 rfl rfl ?_
              refine V.ialdN (j := i) (v := M (e+4) i) dX4_youngest_63 (sh_a4 he) (by omega) (by decide) rfl rfl rfl ?_
              refine V.aload_n dX4_youngest_64 rfl rfl rfl ?_
              refine V.getr dX4_youngest_65 fg_X4_9 (sh_nu he) rfl rfl ?_
              refine V.iload dX4_youngest_68 rfl rfl ?_
              refine V.ialdN (j := i) (v := M (e+2) i) dX4_youngest_70 (sh_a2 he) (by omega) (by decide) rfl rfl rfl ?_
              refine V.calls_i (M1 := M) (v := readyF (M (e+2) i)) (md' := m_X3_readyFrom) (As := [.int (M (e+2) i)]) (rest := [.int (M (e+4) i)]) dX4_youngest_71 ml_X4_37 mo_X3_readyFrom ⟨Nat.le_of_ble_eq_true rfl, Nat.le_of_ble_eq_true rfl⟩ (Nat.le_of_ble_eq_true rfl) rfl rfl (Nat.le_of_ble_eq_true rfl) (v_X3_readyFrom (M (e+2) i) _) rfl ?_
              refine V.icmp_lt (tgt := 101) dX4_youngest_74 rfl rfl (fun c74 => ?_) (fun c74 => ?_)
              · have c74 : ¬ readyF (M (e+2) i) ≤ M (e+4) i := Int32.not_le.mpr c74
                refine V.iconst (v := 0) dX4_youngest_101 rfl rfl ?_
                refine V.ist dX4_youngest_102 (by decide) (L' := [(0, .ref (e+1)), (1, .int fr), (2, .int to_), (3, .int (-1)), (4, .int (nI i)), (5, .int 0)]) rfl rfl ?_
                refine V.iload dX4_youngest_104 rfl rfl ?_
                refine V.if_eq (tgt := 132) dX4_youngest_106 rfl rfl (fun _ => ?_) (fun c106 => absurd c106 (by decide))
                refine V.inc (v := nI (i + 1)) dX4_youngest_132 rfl (nI_1 _) (by decide) (L' := [(0, .ref (e+1)), (1, .int fr), (2, .int to_), (3, .int (-1)), (4, .int (nI (i + 1))), (5, .int 0)]) rfl rfl ?_
                refine V.goto (pc' := 5) dX4_youngest_135 rfl ?_
                refine V.loc (L' := [(0, .ref (e+1)), (1, .int fr), (2, .int to_), (3, .int (-1)), (4, .int (nI (i + 1)))]) (fun q h => List.mem_append_left [(5, Value.int 0)] h) ?_
                rw [show yoG (M (e+2)) (M (e+3)) (M (e+4)) (M (e+5)) (M (e+6)) fr to_ (n + 1) i none = yoG (M (e+2)) (M (e+3)) (M (e+4)) (M (e+5)) (M (e+6)) fr to_ n (i + 1) (none) from (by simp only [yoG]; rw [if_neg (fun q => c74 q.2.2.2.2.1)])]
                exact ih (i + 1) (none) (fun j q => by cases q) (by omega)
              · have c74 : readyF (M (e+2) i) ≤ M (e+4) i := Int32.not_lt.mp c74
                refine V.aload_n dX4_youngest_77 rfl rfl rfl ?_
                refine V.getr dX4_youngest_78 fg_X4_18 (sh_nu he) rfl rfl ?_
                refine V.iload dX4_youngest_81 rfl rfl ?_
                refine V.ialdN (j := i) (v := M (e+4) i) dX4_youngest_83 (sh_a4 he) (by omega) (by decide) rfl rfl rfl ?_
                refine V.aload_n dX4_youngest_84 rfl rfl rfl ?_
                refine V.getr dX4_youngest_85 fg_X4_9 (sh_nu he) rfl rfl ?_
                refine V.iload dX4_youngest_88 rfl rfl ?_
                refine V.ialdN (j := i) (v := M (e+2) i) dX4_youngest_90 (sh_a2 he) (by omega) (by decide) rfl rfl rfl ?_
                refine V.calls_i (M1 := M) (v := burntF (M (e+2) i)) (md' := m_X3_burntFrom) (As := [.int (M (e+2) i)]) (rest := [.int (M (e+4) i)]) dX4_youngest_91 ml_X4_43 mo_X3_burntFrom ⟨Nat.le_of_ble_eq_true rfl, Nat.le_of_ble_eq_true rfl⟩ (Nat.le_of_ble_eq_true rfl) rfl rfl (Nat.le_of_ble_eq_true rfl) (v_X3_burntFrom (M (e+2) i) _) rfl ?_
                refine V.icmp_ge (tgt := 101) dX4_youngest_94 rfl rfl (fun c94 => ?_) (fun c94 => ?_)
                · have c94 : ¬ M (e+4) i < burntF (M (e+2) i) := Int32.not_lt.mpr c94
                  refine V.iconst (v := 0) dX4_youngest_101 rfl rfl ?_
                  refine V.ist dX4_youngest_102 (by decide) (L' := [(0, .ref (e+1)), (1, .int fr), (2, .int to_), (3, .int (-1)), (4, .int (nI i)), (5, .int 0)]) rfl rfl ?_
                  refine V.iload dX4_youngest_104 rfl rfl ?_
                  refine V.if_eq (tgt := 132) dX4_youngest_106 rfl rfl (fun _ => ?_) (fun c106 => absurd c106 (by decide))
                  refine V.inc (v := nI (i + 1)) dX4_youngest_132 rfl (nI_1 _) (by decide) (L' := [(0, .ref (e+1)), (1, .int fr), (2, .int to_), (3, .int (-1)), (4, .int (nI (i + 1))), (5, .int 0)]) rfl rfl ?_
                  refine V.goto (pc' := 5) dX4_youngest_135 rfl ?_
                  refine V.loc (L' := [(0, .ref (e+1)), (1, .int fr), (2, .int to_), (3, .int (-1)), (4, .int (nI (i + 1)))]) (fun q h => List.mem_append_left [(5, Value.int 0)] h) ?_
                  rw [show yoG (M (e+2)) (M (e+3)) (M (e+4)) (M (e+5)) (M (e+6)) fr to_ (n + 1) i none = yoG (M (e+2)) (M (e+3)) (M (e+4)) (M (e+5)) (M (e+6)) fr to_ n (i + 1) (none) from (by simp only [yoG]; rw [if_neg (fun q => c94 q.2.2.2.2.2)])]
                  exact ih (i + 1) (none) (fun j q => by cases q) (by omega)
                · have c94 : M (e+4) i < burntF (M (e+2) i) := Int32.not_le.mp c94
                  refine V.iconst (v := 1) dX4_youngest_97 rfl rfl ?_
                  refine V.goto (pc' := 102) dX4_youngest_98 rfl ?_
                  refine V.ist dX4_youngest_102 (by decide) (L' := [(0, .ref (e+1)), (1, .int fr), (2, .int to_), (3, .int (-1)), (4, .int (nI i)), (5, .int 1)]) rfl rfl ?_
                  refine V.iload dX4_youngest_104 rfl rfl ?_
                  refine V.if_eq (tgt := 132) dX4_youngest_106 rfl rfl (fun c106 => absurd c106 (by decide)) (fun _ => ?_)
                  refine V.iload_n dX4_youngest_109 rfl rfl rfl ?_
                  refine V.if_lt (tgt := 129) dX4_youngest_110 rfl rfl (fun _ => ?_) (fun c110 => absurd c110 (by decide))
                  refine V.iload dX4_youngest_129 rfl rfl ?_
                  refine V.ist_n dX4_youngest_131 rfl (by decide) (L' := [(0, .ref (e+1)), (1, .int fr), (2, .int to_), (3, .int (nI i)), (4, .int (nI i)), (5, .int 1)]) rfl rfl ?_
                  refine V.inc (v := nI (i + 1)) dX4_youngest_132 rfl (nI_1 _) (by decide) (L' := [(0, .ref (e+1)), (1, .int fr), (2, .int to_), (3, .int (nI i)), (4, .int (nI (i + 1))), (5, .int 1)]) rfl rfl ?_
                  refine V.goto (pc' := 5) dX4_youngest_135 rfl ?_
                  refine V.loc (L' := [(0, .ref (e+1)), (1, .int fr), (2, .int to_), (3, .int (nI i)), (4, .int (nI (i + 1)))]) (fun q h => List.mem_append_left [(5, Value.int 1)] h) ?_
                  rw [show yoG (M (e+2)) (M (e+3)) (M (e+4)) (M (e+5)) (M (e+6)) fr to_ (n + 1) i none = yoG (M (e+2)) (M (e+3)) (M (e+4)) (M (e+5)) (M (e+6)) fr to_ n (i + 1) (some i) from (by simp only [yoG]; rw [if_pos ⟨c22, c32, c43, c54, c74, c94⟩])]
                  exact ih (i + 1) (some i) (fun j q => by cases q; omega) (by omega)
    · have hj : j < i := ho j rfl
      refine V.iload dX4_youngest_5 rfl rfl ?_
      refine V.aload_n dX4_youngest_7 rfl rfl rfl ?_
      refine V.geti (v := nI c) dX4_youngest_8 fg_X4_27 (sh_nu he) rfl hM rfl ?_
      refine V.icmp_ge (tgt := 138) dX4_youngest_11 rfl rfl (fun c11 => absurd ((nI_leI (a := c) (b := i) (by omega) (by omega)).mp c11) (by omega)) (fun c11 => ?_)
      have c11 : ¬ c ≤ i := fun q => c11 ((nI_leI (a := c) (b := i) (by omega) (by omega)).mpr q)
      refine V.aload_n dX4_youngest_14 rfl rfl rfl ?_
      refine V.getr dX4_youngest_15 fg_X4_24 (sh_nu he) rfl rfl ?_
      refine V.iload dX4_youngest_18 rfl rfl ?_
      refine V.ialdN (j := i) (v := M (e+6) i) dX4_youngest_20 (sh_a6 he) (by omega) (by decide) rfl rfl rfl ?_
      refine V.iconst (v := 3) dX4_youngest_21 rfl rfl ?_
      refine V.icmp_ne (tgt := 101) dX4_youngest_22 rfl rfl (fun c22 => ?_) (fun c22 => ?_)
      · skip
        refine V.iconst (v := 0) dX4_youngest_101 rfl rfl ?_
        refine V.ist dX4_youngest_102 (by decide) (L' := [(0, .ref (e+1)), (1, .int fr), (2, .int to_), (3, .int (nI j)), (4, .int (nI i)), (5, .int 0)]) rfl rfl ?_
        refine V.iload dX4_youngest_104 rfl rfl ?_
        refine V.if_eq (tgt := 132) dX4_youngest_106 rfl rfl (fun _ => ?_) (fun c106 => absurd c106 (by decide))
        refine V.inc (v := nI (i + 1)) dX4_youngest_132 rfl (nI_1 _) (by decide) (L' := [(0, .ref (e+1)), (1, .int fr), (2, .int to_), (3, .int (nI j)), (4, .int (nI (i + 1))), (5, .int 0)]) rfl rfl ?_
        refine V.goto (pc' := 5) dX4_youngest_135 rfl ?_
        refine V.loc (L' := [(0, .ref (e+1)), (1, .int fr), (2, .int to_), (3, .int (nI j)), (4, .int (nI (i + 1)))]) (fun q h => List.mem_append_left [(5, Value.int 0)] h) ?_
        rw [show yoG (M (e+2)) (M (e+3)) (M (e+4)) (M (e+5)) (M (e+6)) fr to_ (n + 1) i (some j) = yoG (M (e+2)) (M (e+3)) (M (e+4)) (M (e+5)) (M (e+6)) fr to_ n (i + 1) (some j) from (by simp only [yoG]; rw [if_neg (fun q => c22 q.1.1)])]
        exact ih (i + 1) (some j) (fun j q => by cases q; omega) (by omega)
      · skip
        refine V.aload_n dX4_youngest_25 rfl rfl rfl ?_
        refine V.getr dX4_youngest_26 fg_X4_15 (sh_nu he) rfl rfl ?_
        refine V.iload dX4_youngest_29 rfl rfl ?_
        refine V.ialdN (j := i) (v := M (e+3) i) dX4_youngest_31 (sh_a3 he) (by omega) (by decide) rfl rfl rfl ?_
        refine V.if_le (tgt := 101) dX4_youngest_32 rfl rfl (fun c32 => ?_) (fun c32 => ?_)
        · have c32 : ¬ 0 < M (e+3) i := Int32.not_lt.mpr c32
          refine V.iconst (v := 0) dX4_youngest_101 rfl rfl ?_
          refine V.ist dX4_youngest_102 (by decide) (L' := [(0, .ref (e+1)), (1, .int fr), (2, .int to_), (3, .int (nI j)), (4, .int (nI i)), (5, .int 0)]) rfl rfl ?_
          refine V.iload dX4_youngest_104 rfl rfl ?_
          refine V.if_eq (tgt := 132) dX4_youngest_106 rfl rfl (fun _ => ?_) (fun c106 => absurd c106 (by decide))
          refine V.inc (v := nI (i + 1)) dX4_youngest_132 rfl (nI_1 _) (by decide) (L' := [(0, .ref (e+1)), (1, .int fr), (2, .int to_), (3, .int (nI j)), (4, .int (nI (i + 1))), (5, .int 0)]) rfl rfl ?_
          refine V.goto (pc' := 5) dX4_youngest_135 rfl ?_
          refine V.loc (L' := [(0, .ref (e+1)), (1, .int fr), (2, .int to_), (3, .int (nI j)), (4, .int (nI (i + 1)))]) (fun q h => List.mem_append_left [(5, Value.int 0)] h) ?_
          rw [show yoG (M (e+2)) (M (e+3)) (M (e+4)) (M (e+5)) (M (e+6)) fr to_ (n + 1) i (some j) = yoG (M (e+2)) (M (e+3)) (M (e+4)) (M (e+5)) (M (e+6)) fr to_ n (i + 1) (some j) from (by simp only [yoG]; rw [if_neg (fun q => c32 q.1.2.1)])]
          exact ih (i + 1) (some j) (fun j q => by cases q; omega) (by omega)
        · have c32 : 0 < M (e+3) i := Int32.not_le.mp c32
          refine V.aload_n dX4_youngest_35 rfl rfl rfl ?_
          refine V.getr dX4_youngest_36 fg_X4_21 (sh_nu he) rfl rfl ?_
          refine V.iload dX4_youngest_39 rfl rfl ?_
          refine V.ialdN (j := i) (v := M (e+5) i) dX4_youngest_41 (sh_a5 he) (by omega) (by decide) rfl rfl rfl ?_
          refine V.iload_n dX4_youngest_42 rfl rfl rfl ?_
          refine V.icmp_lt (tgt := 101) dX4_youngest_43 rfl rfl (fun c43 => ?_) (fun c43 => ?_)
          · have c43 : ¬ fr ≤ M (e+5) i := Int32.not_le.mpr c43
            refine V.iconst (v := 0) dX4_youngest_101 rfl rfl ?_
            refine V.ist dX4_youngest_102 (by decide) (L' := [(0, .ref (e+1)), (1, .int fr), (2, .int to_), (3, .int (nI j)), (4, .int (nI i)), (5, .int 0)]) rfl rfl ?_
            refine V.iload dX4_youngest_104 rfl rfl ?_
            refine V.if_eq (tgt := 132) dX4_youngest_106 rfl rfl (fun _ => ?_) (fun c106 => absurd c106 (by decide))
            refine V.inc (v := nI (i + 1)) dX4_youngest_132 rfl (nI_1 _) (by decide) (L' := [(0, .ref (e+1)), (1, .int fr), (2, .int to_), (3, .int (nI j)), (4, .int (nI (i + 1))), (5, .int 0)]) rfl rfl ?_
            refine V.goto (pc' := 5) dX4_youngest_135 rfl ?_
            refine V.loc (L' := [(0, .ref (e+1)), (1, .int fr), (2, .int to_), (3, .int (nI j)), (4, .int (nI (i + 1)))]) (fun q h => List.mem_append_left [(5, Value.int 0)] h) ?_
            rw [show yoG (M (e+2)) (M (e+3)) (M (e+4)) (M (e+5)) (M (e+6)) fr to_ (n + 1) i (some j) = yoG (M (e+2)) (M (e+3)) (M (e+4)) (M (e+5)) (M (e+6)) fr to_ n (i + 1) (some j) from (by simp only [yoG]; rw [if_neg (fun q => c43 q.1.2.2.1)])]
            exact ih (i + 1) (some j) (fun j q => by cases q; omega) (by omega)
          · have c43 : fr ≤ M (e+5) i := Int32.not_lt.mp c43
            refine V.aload_n dX4_youngest_46 rfl rfl rfl ?_
            refine V.getr dX4_youngest_47 fg_X4_21 (sh_nu he) rfl rfl ?_
            refine V.iload dX4_youngest_50 rfl rfl ?_
            refine V.ialdN (j := i) (v := M (e+5) i) dX4_youngest_52 (sh_a5 he) (by omega) (by decide) rfl rfl rfl ?_
            refine V.iload_n dX4_youngest_53 rfl rfl rfl ?_
            refine V.icmp_gt (tgt := 101) dX4_youngest_54 rfl rfl (fun c54 => ?_) (fun c54 => ?_)
            · have c54 : ¬ M (e+5) i ≤ to_ := Int32.not_le.mpr c54
              refine V.iconst (v := 0) dX4_youngest_101 rfl rfl ?_
              refine V.ist dX4_youngest_102 (by decide) (L' := [(0, .ref (e+1)), (1, .int fr), (2, .int to_), (3, .int (nI j)), (4, .int (nI i)), (5, .int 0)]) rfl rfl ?_
              refine V.iload dX4_youngest_104 rfl rfl ?_
              refine V.if_eq (tgt := 132) dX4_youngest_106 rfl rfl (fun _ => ?_) (fun c106 => absurd c106 (by decide))
              refine V.inc (v := nI (i + 1)) dX4_youngest_132 rfl (nI_1 _) (by decide) (L' := [(0, .ref (e+1)), (1, .int fr), (2, .int to_), (3, .int (nI j)), (4, .int (nI (i + 1))), (5, .int 0)]) rfl rfl ?_
              refine V.goto (pc' := 5) dX4_youngest_135 rfl ?_
              refine V.loc (L' := [(0, .ref (e+1)), (1, .int fr), (2, .int to_), (3, .int (nI j)), (4, .int (nI (i + 1)))]) (fun q h => List.mem_append_left [(5, Value.int 0)] h) ?_
              rw [show yoG (M (e+2)) (M (e+3)) (M (e+4)) (M (e+5)) (M (e+6)) fr to_ (n + 1) i (some j) = yoG (M (e+2)) (M (e+3)) (M (e+4)) (M (e+5)) (M (e+6)) fr to_ n (i + 1) (some j) from (by simp only [yoG]; rw [if_neg (fun q => c54 q.1.2.2.2.1)])]
              exact ih (i + 1) (some j) (fun j q => by cases q; omega) (by omega)
            · have c54 : M (e+5) i ≤ to_ := Int32.not_lt.mp c54
              refine V.aload_n dX4_youngest_57 rfl rfl rfl ?_
              refine V.getr dX4_youngest_58 fg_X4_18 (sh_nu he) rfl rfl ?_
              refine V.iload dX4_youngest_61 rfl rfl ?_
              refine V.ialdN (j := i) (v := M (e+4) i) dX4_youngest_63 (sh_a4 he) (by omega) (by decide) rfl rfl rfl ?_
              refine V.aload_n dX4_youngest_64 rfl rfl rfl ?_
              refine V.getr dX4_youngest_65 fg_X4_9 (sh_nu he) rfl rfl ?_
              refine V.iload dX4_youngest_68 rfl rfl ?_
              refine V.ialdN (j := i) (v := M (e+2) i) dX4_youngest_70 (sh_a2 he) (by omega) (by decide) rfl rfl rfl ?_
              refine V.calls_i (M1 := M) (v := readyF (M (e+2) i)) (md' := m_X3_readyFrom) (As := [.int (M (e+2) i)]) (rest := [.int (M (e+4) i)]) dX4_youngest_71 ml_X4_37 mo_X3_readyFrom ⟨Nat.le_of_ble_eq_true rfl, Nat.le_of_ble_eq_true rfl⟩ (Nat.le_of_ble_eq_true rfl) rfl rfl (Nat.le_of_ble_eq_true rfl) (v_X3_readyFrom (M (e+2) i) _) rfl ?_
              refine V.icmp_lt (tgt := 101) dX4_youngest_74 rfl rfl (fun c74 => ?_) (fun c74 => ?_)
              · have c74 : ¬ readyF (M (e+2) i) ≤ M (e+4) i := Int32.not_le.mpr c74
                refine V.iconst (v := 0) dX4_youngest_101 rfl rfl ?_
                refine V.ist dX4_youngest_102 (by decide) (L' := [(0, .ref (e+1)), (1, .int fr), (2, .int to_), (3, .int (nI j)), (4, .int (nI i)), (5, .int 0)]) rfl rfl ?_
                refine V.iload dX4_youngest_104 rfl rfl ?_
                refine V.if_eq (tgt := 132) dX4_youngest_106 rfl rfl (fun _ => ?_) (fun c106 => absurd c106 (by decide))
                refine V.inc (v := nI (i + 1)) dX4_youngest_132 rfl (nI_1 _) (by decide) (L' := [(0, .ref (e+1)), (1, .int fr), (2, .int to_), (3, .int (nI j)), (4, .int (nI (i + 1))), (5, .int 0)]) rfl rfl ?_
                refine V.goto (pc' := 5) dX4_youngest_135 rfl ?_
                refine V.loc (L' := [(0, .ref (e+1)), (1, .int fr), (2, .int to_), (3, .int (nI j)), (4, .int (nI (i + 1)))]) (fun q h => List.mem_append_left [(5, Value.int 0)] h) ?_
                rw [show yoG (M (e+2)) (M (e+3)) (M (e+4)) (M (e+5)) (M (e+6)) fr to_ (n + 1) i (some j) = yoG (M (e+2)) (M (e+3)) (M (e+4)) (M (e+5)) (M (e+6)) fr to_ n (i + 1) (some j) from (by simp only [yoG]; rw [if_neg (fun q => c74 q.1.2.2.2.2.1)])]
                exact ih (i + 1) (some j) (fun j q => by cases q; omega) (by omega)
              · have c74 : readyF (M (e+2) i) ≤ M (e+4) i := Int32.not_lt.mp c74
                refine V.aload_n dX4_youngest_77 rfl rfl rfl ?_
                refine V.getr dX4_youngest_78 fg_X4_18 (sh_nu he) rfl rfl ?_
                refine V.iload dX4_youngest_81 rfl rfl ?_
                refine V.ialdN (j := i) (v := M (e+4) i) dX4_youngest_83 (sh_a4 he) (by omega) (by decide) rfl rfl rfl ?_
                refine V.aload_n dX4_youngest_84 rfl rfl rfl ?_
                refine V.getr dX4_youngest_85 fg_X4_9 (sh_nu he) rfl rfl ?_
                refine V.iload dX4_youngest_88 rfl rfl ?_
                refine V.ialdN (j := i) (v := M (e+2) i) dX4_youngest_90 (sh_a2 he) (by omega) (by decide) rfl rfl rfl ?_
                refine V.calls_i (M1 := M) (v := burntF (M (e+2) i)) (md' := m_X3_burntFrom) (As := [.int (M (e+2) i)]) (rest := [.int (M (e+4) i)]) dX4_youngest_91 ml_X4_43 mo_X3_burntFrom ⟨Nat.le_of_ble_eq_true rfl, Nat.le_of_ble_eq_true rfl⟩ (Nat.le_of_ble_eq_true rfl) rfl rfl (Nat.le_of_ble_eq_true rfl) (v_X3_burntFrom (M (e+2) i) _) rfl ?_
                refine V.icmp_ge (tgt := 101) dX4_youngest_94 rfl rfl (fun c94 => ?_) (fun c94 => ?_)
                · have c94 : ¬ M (e+4) i < burntF (M (e+2) i) := Int32.not_lt.mpr c94
                  refine V.iconst (v := 0) dX4_youngest_101 rfl rfl ?_
                  refine V.ist dX4_youngest_102 (by decide) (L' := [(0, .ref (e+1)), (1, .int fr), (2, .int to_), (3, .int (nI j)), (4, .int (nI i)), (5, .int 0)]) rfl rfl ?_
                  refine V.iload dX4_youngest_104 rfl rfl ?_
                  refine V.if_eq (tgt := 132) dX4_youngest_106 rfl rfl (fun _ => ?_) (fun c106 => absurd c106 (by decide))
                  refine V.inc (v := nI (i + 1)) dX4_youngest_132 rfl (nI_1 _) (by decide) (L' := [(0, .ref (e+1)), (1, .int fr), (2, .int to_), (3, .int (nI j)), (4, .int (nI (i + 1))), (5, .int 0)]) rfl rfl ?_
                  refine V.goto (pc' := 5) dX4_youngest_135 rfl ?_
                  refine V.loc (L' := [(0, .ref (e+1)), (1, .int fr), (2, .int to_), (3, .int (nI j)), (4, .int (nI (i + 1)))]) (fun q h => List.mem_append_left [(5, Value.int 0)] h) ?_
                  rw [show yoG (M (e+2)) (M (e+3)) (M (e+4)) (M (e+5)) (M (e+6)) fr to_ (n + 1) i (some j) = yoG (M (e+2)) (M (e+3)) (M (e+4)) (M (e+5)) (M (e+6)) fr to_ n (i + 1) (some j) from (by simp only [yoG]; rw [if_neg (fun q => c94 q.1.2.2.2.2.2)])]
                  exact ih (i + 1) (some j) (fun j q => by cases q; omega) (by omega)
                · have c94 : M (e+4) i < burntF (M (e+2) i) := Int32.not_le.mp c94
                  refine V.iconst (v := 1) dX4_youngest_97 rfl rfl ?_
                  refine V.goto (pc' := 102) dX4_youngest_98 rfl ?_
                  refine V.ist dX4_youngest_102 (by decide) (L' := [(0, .ref (e+1)), (1, .int fr), (2, .int to_), (3, .int (nI j)), (4, .int (nI i)), (5, .int 1)]) rfl rfl ?_
                  refine V.iload dX4_youngest_104 rfl rfl ?_
                  refine V.if_eq (tgt := 132) dX4_youngest_106 rfl rfl (fun c106 => absurd c106 (by decide)) (fun _ => ?_)
                  refine V.iload_n dX4_youngest_109 rfl rfl rfl ?_
                  refine V.if_lt (tgt := 129) dX4_youngest_110 rfl rfl (fun c110 => absurd ((nI_ltI (a := j) (b := 0) (by omega) (by omega)).mp c110) (by omega)) (fun c110 => ?_)
                  have c110 : ¬ j < 0 := fun q => c110 ((nI_ltI (a := j) (b := 0) (by omega) (by omega)).mpr q)
                  refine V.aload_n dX4_youngest_113 rfl rfl rfl ?_
                  refine V.getr dX4_youngest_114 fg_X4_21 (sh_nu he) rfl rfl ?_
                  refine V.iload dX4_youngest_117 rfl rfl ?_
                  refine V.ialdN (j := i) (v := M (e+5) i) dX4_youngest_119 (sh_a5 he) (by omega) (by decide) rfl rfl rfl ?_
                  refine V.aload_n dX4_youngest_120 rfl rfl rfl ?_
                  refine V.getr dX4_youngest_121 fg_X4_21 (sh_nu he) rfl rfl ?_
                  refine V.iload_n dX4_youngest_124 rfl rfl rfl ?_
                  refine V.ialdN (j := j) (v := M (e+5) j) dX4_youngest_125 (sh_a5 he) (by omega) (by decide) rfl rfl rfl ?_
                  refine V.icmp_ge (tgt := 132) dX4_youngest_126 rfl rfl (fun c126 => ?_) (fun c126 => ?_)
                  · have c126 : ¬ M (e+5) i < M (e+5) j := Int32.not_lt.mpr c126
                    refine V.inc (v := nI (i + 1)) dX4_youngest_132 rfl (nI_1 _) (by decide) (L' := [(0, .ref (e+1)), (1, .int fr), (2, .int to_), (3, .int (nI j)), (4, .int (nI (i + 1))), (5, .int 1)]) rfl rfl ?_
                    refine V.goto (pc' := 5) dX4_youngest_135 rfl ?_
                    refine V.loc (L' := [(0, .ref (e+1)), (1, .int fr), (2, .int to_), (3, .int (nI j)), (4, .int (nI (i + 1)))]) (fun q h => List.mem_append_left [(5, Value.int 1)] h) ?_
                    rw [show yoG (M (e+2)) (M (e+3)) (M (e+4)) (M (e+5)) (M (e+6)) fr to_ (n + 1) i (some j) = yoG (M (e+2)) (M (e+3)) (M (e+4)) (M (e+5)) (M (e+6)) fr to_ n (i + 1) (some j) from (by simp only [yoG]; rw [if_neg (fun q => c126 q.2)])]
                    exact ih (i + 1) (some j) (fun j q => by cases q; omega) (by omega)
                  · have c126 : M (e+5) i < M (e+5) j := Int32.not_le.mp c126
                    refine V.iload dX4_youngest_129 rfl rfl ?_
                    refine V.ist_n dX4_youngest_131 rfl (by decide) (L' := [(0, .ref (e+1)), (1, .int fr), (2, .int to_), (3, .int (nI i)), (4, .int (nI i)), (5, .int 1)]) rfl rfl ?_
                    refine V.inc (v := nI (i + 1)) dX4_youngest_132 rfl (nI_1 _) (by decide) (L' := [(0, .ref (e+1)), (1, .int fr), (2, .int to_), (3, .int (nI i)), (4, .int (nI (i + 1))), (5, .int 1)]) rfl rfl ?_
                    refine V.goto (pc' := 5) dX4_youngest_135 rfl ?_
                    refine V.loc (L' := [(0, .ref (e+1)), (1, .int fr), (2, .int to_), (3, .int (nI i)), (4, .int (nI (i + 1)))]) (fun q h => List.mem_append_left [(5, Value.int 1)] h) ?_
                    rw [show yoG (M (e+2)) (M (e+3)) (M (e+4)) (M (e+5)) (M (e+6)) fr to_ (n + 1) i (some j) = yoG (M (e+2)) (M (e+3)) (M (e+4)) (M (e+5)) (M (e+6)) fr to_ n (i + 1) (some i) from (by simp only [yoG]; rw [if_pos ⟨⟨c22, c32, c43, c54, c74, c94⟩, c126⟩])]
                    exact ih (i + 1) (some i) (fun j q => by cases q; omega) (by omega)
theorem v_X4_youngest {e : Nat} (he : isE e) {c : Nat} (hc : c ≤ 10) (fr to_ : Int32) (M : Mem) (hM : M (e+1) 5 = nI c) : V m_X4_youngest 0 [(0, .ref (e+1)), (1, .int fr), (2, .int to_)] [] M (RT (some (.int (bI (yoG (M (e+2)) (M (e+3)) (M (e+4)) (M (e+5)) (M (e+6)) fr to_ c 0 none)))) M) := by
  refine V.iconst (v := -1) dX4_youngest_0 rfl rfl ?_
  refine V.ist_n dX4_youngest_1 rfl (by decide) (L' := [(0, .ref (e+1)), (1, .int fr), (2, .int to_), (3, .int (-1))]) rfl rfl ?_
  refine V.iconst (v := 0) dX4_youngest_2 rfl rfl ?_
  refine V.ist dX4_youngest_3 (by decide) (L' := [(0, .ref (e+1)), (1, .int fr), (2, .int to_), (3, .int (-1)), (4, .int 0)]) rfl rfl ?_
  exact l_X4_youngest he hc fr to_ M hM c 0 none (fun j q => by cases q) (by omega)
