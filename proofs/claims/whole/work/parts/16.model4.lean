/-! The reference: who buys what; a minute, many -/
def boP (kd bg ro ag pl : Nat → Int32) (hw : Int32) (i : Nat) : Prop := pl i = 3 ∧ 0 < bg i ∧ hwF (kd i) (ro i) (ag i) (pl i) = hw
def boG (kd bg ro ag pl : Nat → Int32) (hw : Int32) : Nat → Nat → Option Nat → Option Nat
  | 0, _, o => o
  | n + 1, i, o => boG kd bg ro ag pl hw n (i + 1) (match o with
    | none => (if (pl i = 3 ∧ 0 < bg i ∧ hwF (kd i) (ro i) (ag i) (pl i) = hw) then some i else none)
    | some j => (if (pl i = 3 ∧ 0 < bg i ∧ hwF (kd i) (ro i) (ag i) (pl i) = hw) ∧ ag i < ag j then some i else some j))
theorem bo_lt {kd bg ro ag pl : Nat → Int32} {hw : Int32} : ∀ (n i : Nat) (o : Option Nat), (∀ j, o = some j → j < i) → ∀ j, boG kd bg ro ag pl hw n i o = some j → j < i + n := by
  intro n
  induction n with
  | zero => intro i o ho j h; exact ho j h
  | succ n ih =>
    intro i o ho j h
    have := ih (i + 1) _ (by
      intro j' h'
      cases o with
      | none => dsimp only at h'; split at h' <;> cases h'; omega
      | some k =>
        have := ho k rfl
        dsimp only at h'
        split at h' <;> cases h' <;> omega) j h
    omega
theorem l_X9_bought {c : Nat} (hc : c ≤ 10) (hw : Int32) (M : Mem) (hM : M 63 1 = nI c) : ∀ (n i : Nat) (o : Option Nat), (∀ j, o = some j → j < i) → i + n = c → V m_X9_bought 4 [(0, .ref 62), (1, .int hw), (2, .int (bI o)), (3, .int (nI i))] [] M (RT (some (.int (bI (boG (col M 0) (col M 1) (col M 2) (col M 3) (col M 4) hw n i o)))) M) := by
  intro n
  induction n with
  | zero =>
    intro i o ho hi
    refine V.iload_n dX9_bought_4 rfl rfl rfl ?_
    refine V.aload_n dX9_bought_5 rfl rfl rfl ?_
    refine V.getr dX9_bought_6 fg_X9_7 rfl rfl rfl ?_
    refine V.iconst (v := 1) dX9_bought_9 rfl rfl ?_
    refine V.ialdN (j := 1) (v := nI c) dX9_bought_10 rfl (by decide) (by decide) rfl hM rfl ?_
    refine V.icmp_ge (tgt := 85) dX9_bought_11 rfl rfl (fun c11 => ?_) (fun c11 => absurd ((nI_leI (a := c) (b := i) (by omega) (by omega)).mpr (by omega)) c11)
    have c11 : c ≤ i := (nI_leI (a := c) (b := i) (by omega) (by omega)).mp c11
    refine V.iload_n dX9_bought_85 rfl rfl rfl ?_
    exact V.ret dX9_bought_86 rfl rfl ⟨rfl, rfl⟩
  | succ n ih =>
    intro i o ho hi
    rcases o with _ | j
    · refine V.iload_n dX9_bought_4 rfl rfl rfl ?_
      refine V.aload_n dX9_bought_5 rfl rfl rfl ?_
      refine V.getr dX9_bought_6 fg_X9_7 rfl rfl rfl ?_
      refine V.iconst (v := 1) dX9_bought_9 rfl rfl ?_
      refine V.ialdN (j := 1) (v := nI c) dX9_bought_10 rfl (by decide) (by decide) rfl hM rfl ?_
      refine V.icmp_ge (tgt := 85) dX9_bought_11 rfl rfl (fun c11 => absurd ((nI_leI (a := c) (b := i) (by omega) (by omega)).mp c11) (by omega)) (fun c11 => ?_)
      have c11 : ¬ c ≤ i := fun zq => c11 ((nI_leI (a := c) (b := i) (by omega) (by omega)).mpr zq)
      refine V.aload_n dX9_bought_14 rfl rfl rfl ?_
      refine V.iload_n dX9_bought_15 rfl rfl rfl ?_
      refine V.iconst (v := 4) dX9_bought_16 rfl rfl ?_
      refine V.callv_i (M1 := M) (v := M 63 (20 + 5 * i + 4)) (md' := m_X9_its) (As := [.int (nI i), .int 4]) (rest := []) dX9_bought_17 ml_X9_60 mo_X9_its ⟨Nat.le_of_ble_eq_true rfl, Nat.le_of_ble_eq_true rfl⟩ rfl ⟨_, _, rfl⟩ (Nat.le_of_ble_eq_true rfl) rfl rfl (Nat.le_of_ble_eq_true rfl) (v_X9_its (b := i) (w := 4) (by omega) (by omega) _) rfl ?_
      refine V.iconst (v := 3) dX9_bought_20 rfl rfl ?_
      refine V.icmp_ne (tgt := 46) dX9_bought_21 rfl rfl (fun c21 => ?_) (fun c21 => ?_)
      · skip
        refine V.iconst (v := 0) dX9_bought_46 rfl rfl ?_
        refine V.ist dX9_bought_47 (by decide) (L' := [(0, .ref 62), (1, .int hw), (2, .int (-1)), (3, .int (nI i)), (4, .int 0)]) rfl rfl ?_
        refine V.iload dX9_bought_49 rfl rfl ?_
        refine V.if_eq (tgt := 77) dX9_bought_51 rfl rfl (fun _ => ?_) (fun c51 => absurd c51 (by decide))
        refine V.iload_n dX9_bought_77 rfl rfl rfl ?_
        refine V.ist_n dX9_bought_78 rfl (by decide) (L' := [(0, .ref 62), (1, .int hw), (2, .int (-1)), (3, .int (nI i)), (4, .int 0)]) rfl rfl ?_
        refine V.inc (v := nI (i + 1)) dX9_bought_79 rfl (nI_1 _) (by decide) (L' := [(0, .ref 62), (1, .int hw), (2, .int (-1)), (3, .int (nI (i + 1))), (4, .int 0)]) rfl rfl ?_
        refine V.goto (pc' := 4) dX9_bought_82 rfl ?_
        refine V.loc (L' := [(0, .ref 62), (1, .int hw), (2, .int (-1)), (3, .int (nI (i + 1)))]) (fun zq zh => List.mem_append_left [(4, Value.int 0)] zh) ?_
        rw [show boG (col M 0) (col M 1) (col M 2) (col M 3) (col M 4) hw (n + 1) i none = boG (col M 0) (col M 1) (col M 2) (col M 3) (col M 4) hw n (i + 1) (none) from (by simp only [boG]; rw [if_neg (fun q => c21 q.1)])]
        exact ih (i + 1) (none) (fun j q => by cases q) (by omega)
      · skip
        refine V.aload_n dX9_bought_24 rfl rfl rfl ?_
        refine V.iload_n dX9_bought_25 rfl rfl rfl ?_
        refine V.iconst (v := 1) dX9_bought_26 rfl rfl ?_
        refine V.callv_i (M1 := M) (v := M 63 (20 + 5 * i + 1)) (md' := m_X9_its) (As := [.int (nI i), .int 1]) (rest := []) dX9_bought_27 ml_X9_60 mo_X9_its ⟨Nat.le_of_ble_eq_true rfl, Nat.le_of_ble_eq_true rfl⟩ rfl ⟨_, _, rfl⟩ (Nat.le_of_ble_eq_true rfl) rfl rfl (Nat.le_of_ble_eq_true rfl) (v_X9_its (b := i) (w := 1) (by omega) (by omega) _) rfl ?_
        refine V.if_le (tgt := 46) dX9_bought_30 rfl rfl (fun c30 => ?_) (fun c30 => ?_)
        · have c30 : ¬ 0 < M 63 (20 + 5 * i + 1) := Int32.not_lt.mpr c30
          refine V.iconst (v := 0) dX9_bought_46 rfl rfl ?_
          refine V.ist dX9_bought_47 (by decide) (L' := [(0, .ref 62), (1, .int hw), (2, .int (-1)), (3, .int (nI i)), (4, .int 0)]) rfl rfl ?_
          refine V.iload dX9_bought_49 rfl rfl ?_
          refine V.if_eq (tgt := 77) dX9_bought_51 rfl rfl (fun _ => ?_) (fun c51 => absurd c51 (by decide))
          refine V.iload_n dX9_bought_77 rfl rfl rfl ?_
          refine V.ist_n dX9_bought_78 rfl (by decide) (L' := [(0, .ref 62), (1, .int hw), (2, .int (-1)), (3, .int (nI i)), (4, .int 0)]) rfl rfl ?_
          refine V.inc (v := nI (i + 1)) dX9_bought_79 rfl (nI_1 _) (by decide) (L' := [(0, .ref 62), (1, .int hw), (2, .int (-1)), (3, .int (nI (i + 1))), (4, .int 0)]) rfl rfl ?_
          refine V.goto (pc' := 4) dX9_bought_82 rfl ?_
          refine V.loc (L' := [(0, .ref 62), (1, .int hw), (2, .int (-1)), (3, .int (nI (i + 1)))]) (fun zq zh => List.mem_append_left [(4, Value.int 0)] zh) ?_
          rw [show boG (col M 0) (col M 1) (col M 2) (col M 3) (col M 4) hw (n + 1) i none = boG (col M 0) (col M 1) (col M 2) (col M 3) (col M 4) hw n (i + 1) (none) from (by simp only [boG]; rw [if_neg (fun q => c30 q.2.1)])]
          exact ih (i + 1) (none) (fun j q => by cases q) (by omega)
        · have c30 : 0 < M 63 (20 + 5 * i + 1) := Int32.not_le.mp c30
          refine V.aload_n dX9_bought_33 rfl rfl rfl ?_
          refine V.iload_n dX9_bought_34 rfl rfl rfl ?_
          refine V.callv_i (M1 := M) (v := hwF (M 63 (20 + 5 * i)) (M 63 (20 + 5 * i + 2)) (M 63 (20 + 5 * i + 3)) (M 63 (20 + 5 * i + 4))) (md' := m_X9_howIs) (As := [.int (nI i)]) (rest := []) dX9_bought_35 ml_X9_117 mo_X9_howIs ⟨Nat.le_of_ble_eq_true rfl, Nat.le_of_ble_eq_true rfl⟩ rfl ⟨_, _, rfl⟩ (Nat.le_of_ble_eq_true rfl) rfl rfl (Nat.le_of_ble_eq_true rfl) (v_X9_howIs (b := i) (by omega) _) rfl ?_
          refine V.iload_n dX9_bought_38 rfl rfl rfl ?_
          refine V.icmp_ne (tgt := 46) dX9_bought_39 rfl rfl (fun c39 => ?_) (fun c39 => ?_)
          · skip
            refine V.iconst (v := 0) dX9_bought_46 rfl rfl ?_
            refine V.ist dX9_bought_47 (by decide) (L' := [(0, .ref 62), (1, .int hw), (2, .int (-1)), (3, .int (nI i)), (4, .int 0)]) rfl rfl ?_
            refine V.iload dX9_bought_49 rfl rfl ?_
            refine V.if_eq (tgt := 77) dX9_bought_51 rfl rfl (fun _ => ?_) (fun c51 => absurd c51 (by decide))
            refine V.iload_n dX9_bought_77 rfl rfl rfl ?_
            refine V.ist_n dX9_bought_78 rfl (by decide) (L' := [(0, .ref 62), (1, .int hw), (2, .int (-1)), (3, .int (nI i)), (4, .int 0)]) rfl rfl ?_
            refine V.inc (v := nI (i + 1)) dX9_bought_79 rfl (nI_1 _) (by decide) (L' := [(0, .ref 62), (1, .int hw), (2, .int (-1)), (3, .int (nI (i + 1))), (4, .int 0)]) rfl rfl ?_
            refine V.goto (pc' := 4) dX9_bought_82 rfl ?_
            refine V.loc (L' := [(0, .ref 62), (1, .int hw), (2, .int (-1)), (3, .int (nI (i + 1)))]) (fun zq zh => List.mem_append_left [(4, Value.int 0)] zh) ?_
            rw [show boG (col M 0) (col M 1) (col M 2) (col M 3) (col M 4) hw (n + 1) i none = boG (col M 0) (col M 1) (col M 2) (col M 3) (col M 4) hw n (i + 1) (none) from (by simp only [boG]; rw [if_neg (fun q => c39 q.2.2)])]
            exact ih (i + 1) (none) (fun j q => by cases q) (by omega)
          · skip
            refine V.iconst (v := 1) dX9_bought_42 rfl rfl ?_
            refine V.goto (pc' := 47) dX9_bought_43 rfl ?_
            refine V.ist dX9_bought_47 (by decide) (L' := [(0, .ref 62), (1, .int hw), (2, .int (-1)), (3, .int (nI i)), (4, .int 1)]) rfl rfl ?_
            refine V.iload dX9_bought_49 rfl rfl ?_
            refine V.if_eq (tgt := 77) dX9_bought_51 rfl rfl (fun c51 => absurd c51 (by decide)) (fun _ => ?_)
            refine V.iload_n dX9_bought_54 rfl rfl rfl ?_
            refine V.if_lt (tgt := 73) dX9_bought_55 rfl rfl (fun _ => ?_) (fun c55 => absurd c55 (by decide))
            refine V.iload_n dX9_bought_73 rfl rfl rfl ?_
            refine V.goto (pc' := 78) dX9_bought_74 rfl ?_
            refine V.ist_n dX9_bought_78 rfl (by decide) (L' := [(0, .ref 62), (1, .int hw), (2, .int (nI i)), (3, .int (nI i)), (4, .int 1)]) rfl rfl ?_
            refine V.inc (v := nI (i + 1)) dX9_bought_79 rfl (nI_1 _) (by decide) (L' := [(0, .ref 62), (1, .int hw), (2, .int (nI i)), (3, .int (nI (i + 1))), (4, .int 1)]) rfl rfl ?_
            refine V.goto (pc' := 4) dX9_bought_82 rfl ?_
            refine V.loc (L' := [(0, .ref 62), (1, .int hw), (2, .int (nI i)), (3, .int (nI (i + 1)))]) (fun zq zh => List.mem_append_left [(4, Value.int 1)] zh) ?_
            rw [show boG (col M 0) (col M 1) (col M 2) (col M 3) (col M 4) hw (n + 1) i none = boG (col M 0) (col M 1) (col M 2) (col M 3) (col M 4) hw n (i + 1) (some i) from (by simp only [boG]; rw [if_pos ⟨show col M 4 i = 3 from c21, show 0 < col M 1 i from c30, show hwF (col M 0 i) (col M 2 i) (col M 3 i) (col M 4 i) = hw from c39⟩])]
            exact ih (i + 1) (some i) (fun j q => by cases q; omega) (by omega)
    · have hj : j < i := ho j rfl
      refine V.iload_n dX9_bought_4 rfl rfl rfl ?_
      refine V.aload_n dX9_bought_5 rfl rfl rfl ?_
      refine V.getr dX9_bought_6 fg_X9_7 rfl rfl rfl ?_
      refine V.iconst (v := 1) dX9_bought_9 rfl rfl ?_
      refine V.ialdN (j := 1) (v := nI c) dX9_bought_10 rfl (by decide) (by decide) rfl hM rfl ?_
      refine V.icmp_ge (tgt := 85) dX9_bought_11 rfl rfl (fun c11 => absurd ((nI_leI (a := c) (b := i) (by omega) (by omega)).mp c11) (by omega)) (fun c11 => ?_)
      have c11 : ¬ c ≤ i := fun zq => c11 ((nI_leI (a := c) (b := i) (by omega) (by omega)).mpr zq)
      refine V.aload_n dX9_bought_14 rfl rfl rfl ?_
      refine V.iload_n dX9_bought_15 rfl rfl rfl ?_
      refine V.iconst (v := 4) dX9_bought_16 rfl rfl ?_
      refine V.callv_i (M1 := M) (v := M 63 (20 + 5 * i + 4)) (md' := m_X9_its) (As := [.int (nI i), .int 4]) (rest := []) dX9_bought_17 ml_X9_60 mo_X9_its ⟨Nat.le_of_ble_eq_true rfl, Nat.le_of_ble_eq_true rfl⟩ rfl ⟨_, _, rfl⟩ (Nat.le_of_ble_eq_true rfl) rfl rfl (Nat.le_of_ble_eq_true rfl) (v_X9_its (b := i) (w := 4) (by omega) (by omega) _) rfl ?_
      refine V.iconst (v := 3) dX9_bought_20 rfl rfl ?_
      refine V.icmp_ne (tgt := 46) dX9_bought_21 rfl rfl (fun c21 => ?_) (fun c21 => ?_)
      · skip
        refine V.iconst (v := 0) dX9_bought_46 rfl rfl ?_
        refine V.ist dX9_bought_47 (by decide) (L' := [(0, .ref 62), (1, .int hw), (2, .int (nI j)), (3, .int (nI i)), (4, .int 0)]) rfl rfl ?_
        refine V.iload dX9_bought_49 rfl rfl ?_
        refine V.if_eq (tgt := 77) dX9_bought_51 rfl rfl (fun _ => ?_) (fun c51 => absurd c51 (by decide))
        refine V.iload_n dX9_bought_77 rfl rfl rfl ?_
        refine V.ist_n dX9_bought_78 rfl (by decide) (L' := [(0, .ref 62), (1, .int hw), (2, .int (nI j)), (3, .int (nI i)), (4, .int 0)]) rfl rfl ?_
        refine V.inc (v := nI (i + 1)) dX9_bought_79 rfl (nI_1 _) (by decide) (L' := [(0, .ref 62), (1, .int hw), (2, .int (nI j)), (3, .int (nI (i + 1))), (4, .int 0)]) rfl rfl ?_
        refine V.goto (pc' := 4) dX9_bought_82 rfl ?_
        refine V.loc (L' := [(0, .ref 62), (1, .int hw), (2, .int (nI j)), (3, .int (nI (i + 1)))]) (fun zq zh => List.mem_append_left [(4, Value.int 0)] zh) ?_
        rw [show boG (col M 0) (col M 1) (col M 2) (col M 3) (col M 4) hw (n + 1) i (some j) = boG (col M 0) (col M 1) (col M 2) (col M 3) (col M 4) hw n (i + 1) (some j) from (by simp only [boG]; rw [if_neg (fun q => c21 q.1.1)])]
        exact ih (i + 1) (some j) (fun j q => by cases q; omega) (by omega)
      · skip
        refine V.aload_n dX9_bought_24 rfl rfl rfl ?_
        refine V.iload_n dX9_bought_25 rfl rfl rfl ?_
        refine V.iconst (v := 1) dX9_bought_26 rfl rfl ?_
        refine V.callv_i (M1 := M) (v := M 63 (20 + 5 * i + 1)) (md' := m_X9_its) (As := [.int (nI i), .int 1]) (rest := []) dX9_bought_27 ml_X9_60 mo_X9_its ⟨Nat.le_of_ble_eq_true rfl, Nat.le_of_ble_eq_true rfl⟩ rfl ⟨_, _, rfl⟩ (Nat.le_of_ble_eq_true rfl) rfl rfl (Nat.le_of_ble_eq_true rfl) (v_X9_its (b := i) (w := 1) (by omega) (by omega) _) rfl ?_
        refine V.if_le (tgt := 46) dX9_bought_30 rfl rfl (fun c30 => ?_) (fun c30 => ?_)
        · have c30 : ¬ 0 < M 63 (20 + 5 * i + 1) := Int32.not_lt.mpr c30
          refine V.iconst (v := 0) dX9_bought_46 rfl rfl ?_
          refine V.ist dX9_bought_47 (by decide) (L' := [(0, .ref 62), (1, .int hw), (2, .int (nI j)), (3, .int (nI i)), (4, .int 0)]) rfl rfl ?_
          refine V.iload dX9_bought_49 rfl rfl ?_
          refine V.if_eq (tgt := 77) dX9_bought_51 rfl rfl (fun _ => ?_) (fun c51 => absurd c51 (by decide))
          refine V.iload_n dX9_bought_77 rfl rfl rfl ?_
          refine V.ist_n dX9_bought_78 rfl (by decide) (L' := [(0, .ref 62), (1, .int hw), (2, .int (nI j)), (3, .int (nI i)), (4, .int 0)]) rfl rfl ?_
          refine V.inc (v := nI (i + 1)) dX9_bought_79 rfl (nI_1 _) (by decide) (L' := [(0, .ref 62), (1, .int hw), (2, .int (nI j)), (3, .int (nI (i + 1))), (4, .int 0)]) rfl rfl ?_
          refine V.goto (pc' := 4) dX9_bought_82 rfl ?_
          refine V.loc (L' := [(0, .ref 62), (1, .int hw), (2, .int (nI j)), (3, .int (nI (i + 1)))]) (fun zq zh => List.mem_append_left [(4, Value.int 0)] zh) ?_
          rw [show boG (col M 0) (col M 1) (col M 2) (col M 3) (col M 4) hw (n + 1) i (some j) = boG (col M 0) (col M 1) (col M 2) (col M 3) (col M 4) hw n (i + 1) (some j) from (by simp only [boG]; rw [if_neg (fun q => c30 q.1.2.1)])]
          exact ih (i + 1) (some j) (fun j q => by cases q; omega) (by omega)
        · have c30 : 0 < M 63 (20 + 5 * i + 1) := Int32.not_le.mp c30
          refine V.aload_n dX9_bought_33 rfl rfl rfl ?_
          refine V.iload_n dX9_bought_34 rfl rfl rfl ?_
          refine V.callv_i (M1 := M) (v := hwF (M 63 (20 + 5 * i)) (M 63 (20 + 5 * i + 2)) (M 63 (20 + 5 * i + 3)) (M 63 (20 + 5 * i + 4))) (md' := m_X9_howIs) (As := [.int (nI i)]) (rest := []) dX9_bought_35 ml_X9_117 mo_X9_howIs ⟨Nat.le_of_ble_eq_true rfl, Nat.le_of_ble_eq_true rfl⟩ rfl ⟨_, _, rfl⟩ (Nat.le_of_ble_eq_true rfl) rfl rfl (Nat.le_of_ble_eq_true rfl) (v_X9_howIs (b := i) (by omega) _) rfl ?_
          refine V.iload_n dX9_bought_38 rfl rfl rfl ?_
          refine V.icmp_ne (tgt := 46) dX9_bought_39 rfl rfl (fun c39 => ?_) (fun c39 => ?_)
          · skip
            refine V.iconst (v := 0) dX9_bought_46 rfl rfl ?_
            refine V.ist dX9_bought_47 (by decide) (L' := [(0, .ref 62), (1, .int hw), (2, .int (nI j)), (3, .int (nI i)), (4, .int 0)]) rfl rfl ?_
            refine V.iload dX9_bought_49 rfl rfl ?_
            refine V.if_eq (tgt := 77) dX9_bought_51 rfl rfl (fun _ => ?_) (fun c51 => absurd c51 (by decide))
            refine V.iload_n dX9_bought_77 rfl rfl rfl ?_
            refine V.ist_n dX9_bought_78 rfl (by decide) (L' := [(0, .ref 62), (1, .int hw), (2, .int (nI j)), (3, .int (nI i)), (4, .int 0)]) rfl rfl ?_
            refine V.inc (v := nI (i + 1)) dX9_bought_79 rfl (nI_1 _) (by decide) (L' := [(0, .ref 62), (1, .int hw), (2, .int (nI j)), (3, .int (nI (i + 1))), (4, .int 0)]) rfl rfl ?_
            refine V.goto (pc' := 4) dX9_bought_82 rfl ?_
            refine V.loc (L' := [(0, .ref 62), (1, .int hw), (2, .int (nI j)), (3, .int (nI (i + 1)))]) (fun zq zh => List.mem_append_left [(4, Value.int 0)] zh) ?_
            rw [show boG (col M 0) (col M 1) (col M 2) (col M 3) (col M 4) hw (n + 1) i (some j) = boG (col M 0) (col M 1) (col M 2) (col M 3) (col M 4) hw n (i + 1) (some j) from (by simp only [boG]; rw [if_neg (fun q => c39 q.1.2.2)])]
            exact ih (i + 1) (some j) (fun j q => by cases q; omega) (by omega)
          · skip
            refine V.iconst (v := 1) dX9_bought_42 rfl rfl ?_
            refine V.goto (pc' := 47) dX9_bought_43 rfl ?_
            refine V.ist dX9_bought_47 (by decide) (L' := [(0, .ref 62), (1, .int hw), (2, .int (nI j)), (3, .int (nI i)), (4, .int 1)]) rfl rfl ?_
            refine V.iload dX9_bought_49 rfl rfl ?_
            refine V.if_eq (tgt := 77) dX9_bought_51 rfl rfl (fun c51 => absurd c51 (by decide)) (fun _ => ?_)
            refine V.iload_n dX9_bought_54 rfl rfl rfl ?_
            refine V.if_lt (tgt := 73) dX9_bought_55 rfl rfl (fun c55 => absurd ((nI_ltI (a := j) (b := 0) (by omega) (by omega)).mp c55) (by omega)) (fun c55 => ?_)
            have c55 : ¬ j < 0 := fun zq => c55 ((nI_ltI (a := j) (b := 0) (by omega) (by omega)).mpr zq)
            refine V.aload_n dX9_bought_58 rfl rfl rfl ?_
            refine V.iload_n dX9_bought_59 rfl rfl rfl ?_
            refine V.iconst (v := 3) dX9_bought_60 rfl rfl ?_
            refine V.callv_i (M1 := M) (v := M 63 (20 + 5 * i + 3)) (md' := m_X9_its) (As := [.int (nI i), .int 3]) (rest := []) dX9_bought_61 ml_X9_60 mo_X9_its ⟨Nat.le_of_ble_eq_true rfl, Nat.le_of_ble_eq_true rfl⟩ rfl ⟨_, _, rfl⟩ (Nat.le_of_ble_eq_true rfl) rfl rfl (Nat.le_of_ble_eq_true rfl) (v_X9_its (b := i) (w := 3) (by omega) (by omega) _) rfl ?_
            refine V.aload_n dX9_bought_64 rfl rfl rfl ?_
            refine V.iload_n dX9_bought_65 rfl rfl rfl ?_
            refine V.iconst (v := 3) dX9_bought_66 rfl rfl ?_
            refine V.callv_i (M1 := M) (v := M 63 (20 + 5 * j + 3)) (md' := m_X9_its) (As := [.int (nI j), .int 3]) (rest := [.int (M 63 (20 + 5 * i + 3))]) dX9_bought_67 ml_X9_60 mo_X9_its ⟨Nat.le_of_ble_eq_true rfl, Nat.le_of_ble_eq_true rfl⟩ rfl ⟨_, _, rfl⟩ (Nat.le_of_ble_eq_true rfl) rfl rfl (Nat.le_of_ble_eq_true rfl) (v_X9_its (b := j) (w := 3) (by omega) (by omega) _) rfl ?_
            refine V.icmp_ge (tgt := 77) dX9_bought_70 rfl rfl (fun c70 => ?_) (fun c70 => ?_)
            · have c70 : ¬ M 63 (20 + 5 * i + 3) < M 63 (20 + 5 * j + 3) := Int32.not_lt.mpr c70
              refine V.iload_n dX9_bought_77 rfl rfl rfl ?_
              refine V.ist_n dX9_bought_78 rfl (by decide) (L' := [(0, .ref 62), (1, .int hw), (2, .int (nI j)), (3, .int (nI i)), (4, .int 1)]) rfl rfl ?_
              refine V.inc (v := nI (i + 1)) dX9_bought_79 rfl (nI_1 _) (by decide) (L' := [(0, .ref 62), (1, .int hw), (2, .int (nI j)), (3, .int (nI (i + 1))), (4, .int 1)]) rfl rfl ?_
              refine V.goto (pc' := 4) dX9_bought_82 rfl ?_
              refine V.loc (L' := [(0, .ref 62), (1, .int hw), (2, .int (nI j)), (3, .int (nI (i + 1)))]) (fun zq zh => List.mem_append_left [(4, Value.int 1)] zh) ?_
              rw [show boG (col M 0) (col M 1) (col M 2) (col M 3) (col M 4) hw (n + 1) i (some j) = boG (col M 0) (col M 1) (col M 2) (col M 3) (col M 4) hw n (i + 1) (some j) from (by simp only [boG]; rw [if_neg (fun q => c70 q.2)])]
              exact ih (i + 1) (some j) (fun j q => by cases q; omega) (by omega)
            · have c70 : M 63 (20 + 5 * i + 3) < M 63 (20 + 5 * j + 3) := Int32.not_le.mp c70
              refine V.iload_n dX9_bought_73 rfl rfl rfl ?_
              refine V.goto (pc' := 78) dX9_bought_74 rfl ?_
              refine V.ist_n dX9_bought_78 rfl (by decide) (L' := [(0, .ref 62), (1, .int hw), (2, .int (nI i)), (3, .int (nI i)), (4, .int 1)]) rfl rfl ?_
              refine V.inc (v := nI (i + 1)) dX9_bought_79 rfl (nI_1 _) (by decide) (L' := [(0, .ref 62), (1, .int hw), (2, .int (nI i)), (3, .int (nI (i + 1))), (4, .int 1)]) rfl rfl ?_
              refine V.goto (pc' := 4) dX9_bought_82 rfl ?_
              refine V.loc (L' := [(0, .ref 62), (1, .int hw), (2, .int (nI i)), (3, .int (nI (i + 1)))]) (fun zq zh => List.mem_append_left [(4, Value.int 1)] zh) ?_
              rw [show boG (col M 0) (col M 1) (col M 2) (col M 3) (col M 4) hw (n + 1) i (some j) = boG (col M 0) (col M 1) (col M 2) (col M 3) (col M 4) hw n (i + 1) (some i) from (by simp only [boG]; rw [if_pos ⟨⟨show col M 4 i = 3 from c21, show 0 < col M 1 i from c30, show hwF (col M 0 i) (col M 2 i) (col M 3 i) (col M 4 i) = hw from c39⟩, show col M 3 i < col M 3 j from c70⟩])]
              exact ih (i + 1) (some i) (fun j q => by cases q; omega) (by omega)
theorem v_X9_bought {c : Nat} (hc : c ≤ 10) (hw : Int32) (M : Mem) (hM : M 63 1 = nI c) : V m_X9_bought 0 [(0, .ref 62), (1, .int hw)] [] M (RT (some (.int (bI (boG (col M 0) (col M 1) (col M 2) (col M 3) (col M 4) hw c 0 none)))) M) := by
  refine V.iconst (v := -1) dX9_bought_0 rfl rfl ?_
  refine V.ist_n dX9_bought_1 rfl (by decide) (L' := [(0, .ref 62), (1, .int hw), (2, .int (-1))]) rfl rfl ?_
  refine V.iconst (v := 0) dX9_bought_2 rfl rfl ?_
  refine V.ist_n dX9_bought_3 rfl (by decide) (L' := [(0, .ref 62), (1, .int hw), (2, .int (-1)), (3, .int 0)]) rfl rfl ?_
  exact l_X9_bought hc hw M hM c 0 none (fun j q => by cases q) (by omega)
def bo1 (c : Nat) (M : Mem) : Option Nat := boG (col M 0) (col M 1) (col M 2) (col M 3) (col M 4) 1 c 0 none
def bo2 (c : Nat) (M : Mem) : Option Nat := boG (col M 0) (col M 1) (col M 2) (col M 3) (col M 4) 2 c 0 none
def mTake (b : Nat) (v : Int32) (M : Mem) : Mem := ms (ms (ms M 63 7 (M 63 7 + v)) 63 (20 + 5 * b + 1) (M 63 (20 + 5 * b + 1) - 1)) 63 10 (M 63 10 + 1)
def buyG (c : Nat) : Nat → Mem → Mem
  | 0, M => M
  | n + 1, M => match bo1 c M with
    | some b => buyG c n (mTake b (worthF (M 63 (20 + 5 * b)) (M 63 5)) M)
    | none => match bo2 c M with
      | some b => buyG c n (mTake b (worthF (M 63 (20 + 5 * b)) (M 63 5) / 2) M)
      | none => ms M 63 12 (M 63 12 + nI (n + 1))
theorem mTake_j {b j : Nat} {v : Int32} {M : Mem} (h1 : j ≠ 7) (h2 : j ≠ 10) (h3 : j ≠ 20 + 5 * b + 1) : mTake b v M 63 j = M 63 j := by simp (disch := assumption) only [mTake, ms_j]
theorem mTake_k {b k : Nat} {v : Int32} {M : Mem} (h : k ≠ 63) : mTake b v M k = M k := by simp (disch := assumption) only [mTake, ms_k]
theorem l_X9_buys {c : Nat} (hc : c ≤ 10) (q : Nat) (hq : q ≤ 100000) : ∀ (n i : Nat) (M : Mem), M 63 1 = nI c → i + n = q → V m_X9_buys 2 [(0, .ref 62), (1, .int (nI q)), (2, .int (nI i))] [] M (RT none (buyG c n M)) := by
  intro n
  induction n with
  | zero =>
    intro i M hM hi
    refine V.iload_n dX9_buys_2 rfl rfl rfl ?_
    refine V.iload_n dX9_buys_3 rfl rfl rfl ?_
    refine V.icmp_ge (tgt := 110) dX9_buys_4 rfl rfl (fun c4 => ?_) (fun c4 => absurd ((nI_leI (a := q) (b := i) (by omega) (by omega)).mpr (by omega)) c4)
    have c4 : q ≤ i := (nI_leI (a := q) (b := i) (by omega) (by omega)).mp c4
    exact V.vret dX9_buys_110 rfl ⟨rfl, rfl⟩
  | succ n ih =>
    intro i M hM hi
    refine V.iload_n dX9_buys_2 rfl rfl rfl ?_
    refine V.iload_n dX9_buys_3 rfl rfl rfl ?_
    refine V.icmp_ge (tgt := 110) dX9_buys_4 rfl rfl (fun c4 => absurd ((nI_leI (a := q) (b := i) (by omega) (by omega)).mp c4) (by omega)) (fun c4 => ?_)
    have c4 : ¬ q ≤ i := fun zq => c4 ((nI_leI (a := q) (b := i) (by omega) (by omega)).mpr zq)
    refine V.aload_n dX9_buys_7 rfl rfl rfl ?_
    refine V.iconst (v := 1) dX9_buys_8 rfl rfl ?_
    refine V.callv_i (M1 := M) (v := bI (bo1 c M)) (md' := m_X9_bought) (As := [.int 1]) (rest := []) dX9_buys_9 ml_X9_154 mo_X9_bought ⟨Nat.le_of_ble_eq_true rfl, Nat.le_of_ble_eq_true rfl⟩ rfl ⟨_, _, rfl⟩ (Nat.le_of_ble_eq_true rfl) rfl rfl (Nat.le_of_ble_eq_true rfl) (v_X9_bought hc 1 M hM) rfl ?_
    rcases ho : bo1 c M with _ | b
    · skip
      refine V.ist_n dX9_buys_12 rfl (by decide) (L' := [(0, .ref 62), (1, .int (nI q)), (2, .int (nI i)), (3, .int (-1))]) rfl rfl ?_
      refine V.iload_n dX9_buys_13 rfl rfl rfl ?_
      refine V.if_ge (tgt := 25) dX9_buys_14 rfl rfl (fun c14 => absurd c14 (by decide)) (fun _ => ?_)
      refine V.aload_n dX9_buys_17 rfl rfl rfl ?_
      refine V.iconst (v := 2) dX9_buys_18 rfl rfl ?_
      refine V.callv_i (M1 := M) (v := bI (bo2 c M)) (md' := m_X9_bought) (As := [.int 2]) (rest := []) dX9_buys_19 ml_X9_154 mo_X9_bought ⟨Nat.le_of_ble_eq_true rfl, Nat.le_of_ble_eq_true rfl⟩ rfl ⟨_, _, rfl⟩ (Nat.le_of_ble_eq_true rfl) rfl rfl (Nat.le_of_ble_eq_true rfl) (v_X9_bought hc 2 M hM) rfl ?_
      rcases ho2 : bo2 c M with _ | b
      · skip
        refine V.goto (pc' := 26) dX9_buys_22 rfl ?_
        refine V.ist dX9_buys_26 (by decide) (L' := [(0, .ref 62), (1, .int (nI q)), (2, .int (nI i)), (3, .int (-1)), (4, .int (-1))]) rfl rfl ?_
        refine V.iload dX9_buys_28 rfl rfl ?_
        refine V.if_ge (tgt := 47) dX9_buys_30 rfl rfl (fun c30 => absurd c30 (by decide)) (fun _ => ?_)
        refine V.aload_n dX9_buys_33 rfl rfl rfl ?_
        refine V.getr dX9_buys_34 fg_X9_7 rfl rfl rfl ?_
        refine V.bipush (v := 12) dX9_buys_37 (by decide) rfl ?_
        refine V.dup2 dX9_buys_39 rfl rfl rfl ?_
        refine V.ialdN (j := 12) (v := M 63 12) dX9_buys_40 rfl (by decide) (by decide) rfl rfl rfl ?_
        refine V.iload_n dX9_buys_41 rfl rfl rfl ?_
        refine V.iload_n dX9_buys_42 rfl rfl rfl ?_
        refine V.isub (v := nI (n + 1)) dX9_buys_43 (by rw [pk_sub (by omega), show q - i = n + 1 by omega]) rfl ?_
        refine V.iadd (v := (M 63 12) + (nI (n + 1))) dX9_buys_44 rfl rfl ?_
        refine V.iastN (j := 12) dX9_buys_45 rfl (by decide) (by decide) rfl (M' := (ms M 63 12 ((M 63 12) + (nI (n + 1))))) rfl rfl ?_
        exact V.vret dX9_buys_46 rfl ⟨rfl, (by simp only [buyG, ho, ho2])⟩
      · have hb : b < 0 + c := bo_lt c 0 none (fun j q => by cases q) b ho2
        refine V.goto (pc' := 26) dX9_buys_22 rfl ?_
        refine V.ist dX9_buys_26 (by decide) (L' := [(0, .ref 62), (1, .int (nI q)), (2, .int (nI i)), (3, .int (-1)), (4, .int (nI b))]) rfl rfl ?_
        refine V.iload dX9_buys_28 rfl rfl ?_
        refine V.if_ge (tgt := 47) dX9_buys_30 rfl rfl (fun c30 => ?_) (fun c30 => absurd ((nI_leI (a := 0) (b := b) (by omega) (by omega)).mpr (by omega)) c30)
        have c30 : 0 ≤ b := (nI_leI (a := 0) (b := b) (by omega) (by omega)).mp c30
        refine V.aload_n dX9_buys_47 rfl rfl rfl ?_
        refine V.getr dX9_buys_48 fg_X9_7 rfl rfl rfl ?_
        refine V.bipush (v := 7) dX9_buys_51 (by decide) rfl ?_
        refine V.dup2 dX9_buys_53 rfl rfl rfl ?_
        refine V.ialdN (j := 7) (v := M 63 7) dX9_buys_54 rfl (by decide) (by decide) rfl rfl rfl ?_
        refine V.iload_n dX9_buys_55 rfl rfl rfl ?_
        refine V.if_ge (tgt := 70) dX9_buys_56 rfl rfl (fun c56 => absurd c56 (by decide)) (fun _ => ?_)
        refine V.aload_n dX9_buys_59 rfl rfl rfl ?_
        refine V.iload dX9_buys_60 rfl rfl ?_
        refine V.callv_i (M1 := M) (v := worthF (M 63 (20 + 5 * b)) (M 63 5)) (md' := m_X9_worth) (As := [.int (nI b)]) (rest := [.int (M 63 7), .int 7, .ref 63]) dX9_buys_62 ml_X9_75 mo_X9_worth ⟨Nat.le_of_ble_eq_true rfl, Nat.le_of_ble_eq_true rfl⟩ rfl ⟨_, _, rfl⟩ (Nat.le_of_ble_eq_true rfl) rfl rfl (Nat.le_of_ble_eq_true rfl) (v_X9_worth (b := b) (by omega) _) rfl ?_
        refine V.iconst (v := 2) dX9_buys_65 rfl rfl ?_
        refine V.idiv (v := (worthF (M 63 (20 + 5 * b)) (M 63 5)) / 2) dX9_buys_66 (by decide) rfl rfl ?_
        refine V.goto (pc' := 76) dX9_buys_67 rfl ?_
        refine V.iadd (v := (M 63 7) + ((worthF (M 63 (20 + 5 * b)) (M 63 5)) / 2)) dX9_buys_76 rfl rfl ?_
        refine V.iastN (j := 7) dX9_buys_77 rfl (by decide) (by decide) rfl (M' := (ms M 63 7 ((M 63 7) + ((worthF (M 63 (20 + 5 * b)) (M 63 5)) / 2)))) rfl rfl ?_
        refine V.aload_n dX9_buys_78 rfl rfl rfl ?_
        refine V.getr dX9_buys_79 fg_X9_7 rfl rfl rfl ?_
        refine V.iload dX9_buys_82 rfl rfl ?_
        refine V.iconst (v := 1) dX9_buys_84 rfl rfl ?_
        refine V.calls_i (M1 := (ms M 63 7 ((M 63 7) + ((worthF (M 63 (20 + 5 * b)) (M 63 5)) / 2)))) (v := nI (20 + 5 * b + 1)) (md' := m_X9_where) (As := [.int (nI b), .int 1]) (rest := [.ref 63]) dX9_buys_85 ml_X9_45 mo_X9_where ⟨Nat.le_of_ble_eq_true rfl, Nat.le_of_ble_eq_true rfl⟩ (Nat.le_of_ble_eq_true rfl) rfl rfl (Nat.le_of_ble_eq_true rfl) (v_X9_where b 1 _) rfl ?_
        refine V.dup2 dX9_buys_88 rfl rfl rfl ?_
        refine V.ialdN (j := 20 + 5 * b + 1) (v := M 63 (20 + 5 * b + 1)) dX9_buys_89 rfl (by omega) (by decide) rfl (by rw [ms_j (by omega)]) rfl ?_
        refine V.iconst (v := 1) dX9_buys_90 rfl rfl ?_
        refine V.isub (v := (M 63 (20 + 5 * b + 1)) - 1) dX9_buys_91 rfl rfl ?_
        refine V.iastN (j := 20 + 5 * b + 1) dX9_buys_92 rfl (by omega) (by decide) rfl (M' := (ms (ms M 63 7 ((M 63 7) + ((worthF (M 63 (20 + 5 * b)) (M 63 5)) / 2))) 63 (20 + 5 * b + 1) ((M 63 (20 + 5 * b + 1)) - 1))) rfl rfl ?_
        refine V.aload_n dX9_buys_93 rfl rfl rfl ?_
        refine V.getr dX9_buys_94 fg_X9_7 rfl rfl rfl ?_
        refine V.bipush (v := 10) dX9_buys_97 (by decide) rfl ?_
        refine V.dup2 dX9_buys_99 rfl rfl rfl ?_
        refine V.ialdN (j := 10) (v := M 63 10) dX9_buys_100 rfl (by decide) (by decide) rfl (by rw [ms_j (by omega), ms_j (by decide)]) rfl ?_
        refine V.iconst (v := 1) dX9_buys_101 rfl rfl ?_
        refine V.iadd (v := (M 63 10) + 1) dX9_buys_102 rfl rfl ?_
        refine V.iastN (j := 10) dX9_buys_103 rfl (by decide) (by decide) rfl (M' := (ms (ms (ms M 63 7 ((M 63 7) + ((worthF (M 63 (20 + 5 * b)) (M 63 5)) / 2))) 63 (20 + 5 * b + 1) ((M 63 (20 + 5 * b + 1)) - 1)) 63 10 ((M 63 10) + 1))) rfl rfl ?_
        refine V.inc (v := nI (i + 1)) dX9_buys_104 rfl (nI_1 _) (by decide) (L' := [(0, .ref 62), (1, .int (nI q)), (2, .int (nI (i + 1))), (3, .int (-1)), (4, .int (nI b))]) rfl rfl ?_
        refine V.goto (pc' := 2) dX9_buys_107 rfl ?_
        refine V.loc (L' := [(0, .ref 62), (1, .int (nI q)), (2, .int (nI (i + 1)))]) (fun zq zh => List.mem_append_left [(3, Value.int (-1)), (4, Value.int (nI b))] zh) ?_
        rw [show buyG c (n + 1) M = buyG c n (mTake b (worthF (M 63 (20 + 5 * b)) (M 63 5) / 2) M) from by simp only [buyG, ho, ho2]]
        exact ih (i + 1) (mTake b (worthF (M 63 (20 + 5 * b)) (M 63 5) / 2) M) (by rw [mTake_j (by decide) (by decide) (by omega)]; exact hM) (by omega)
    · have hb : b < 0 + c := bo_lt c 0 none (fun j q => by cases q) b ho
      refine V.ist_n dX9_buys_12 rfl (by decide) (L' := [(0, .ref 62), (1, .int (nI q)), (2, .int (nI i)), (3, .int (nI b))]) rfl rfl ?_
      refine V.iload_n dX9_buys_13 rfl rfl rfl ?_
      refine V.if_ge (tgt := 25) dX9_buys_14 rfl rfl (fun c14 => ?_) (fun c14 => absurd ((nI_leI (a := 0) (b := b) (by omega) (by omega)).mpr (by omega)) c14)
      have c14 : 0 ≤ b := (nI_leI (a := 0) (b := b) (by omega) (by omega)).mp c14
      refine V.iload_n dX9_buys_25 rfl rfl rfl ?_
      refine V.ist dX9_buys_26 (by decide) (L' := [(0, .ref 62), (1, .int (nI q)), (2, .int (nI i)), (3, .int (nI b)), (4, .int (nI b))]) rfl rfl ?_
      refine V.iload dX9_buys_28 rfl rfl ?_
      refine V.if_ge (tgt := 47) dX9_buys_30 rfl rfl (fun c30 => ?_) (fun c30 => absurd ((nI_leI (a := 0) (b := b) (by omega) (by omega)).mpr (by omega)) c30)
      have c30 : 0 ≤ b := (nI_leI (a := 0) (b := b) (by omega) (by omega)).mp c30
      refine V.aload_n dX9_buys_47 rfl rfl rfl ?_
      refine V.getr dX9_buys_48 fg_X9_7 rfl rfl rfl ?_
      refine V.bipush (v := 7) dX9_buys_51 (by decide) rfl ?_
      refine V.dup2 dX9_buys_53 rfl rfl rfl ?_
      refine V.ialdN (j := 7) (v := M 63 7) dX9_buys_54 rfl (by decide) (by decide) rfl rfl rfl ?_
      refine V.iload_n dX9_buys_55 rfl rfl rfl ?_
      refine V.if_ge (tgt := 70) dX9_buys_56 rfl rfl (fun c56 => ?_) (fun c56 => absurd ((nI_leI (a := 0) (b := b) (by omega) (by omega)).mpr (by omega)) c56)
      have c56 : 0 ≤ b := (nI_leI (a := 0) (b := b) (by omega) (by omega)).mp c56
      refine V.aload_n dX9_buys_70 rfl rfl rfl ?_
      refine V.iload dX9_buys_71 rfl rfl ?_
      refine V.callv_i (M1 := M) (v := worthF (M 63 (20 + 5 * b)) (M 63 5)) (md' := m_X9_worth) (As := [.int (nI b)]) (rest := [.int (M 63 7), .int 7, .ref 63]) dX9_buys_73 ml_X9_75 mo_X9_worth ⟨Nat.le_of_ble_eq_true rfl, Nat.le_of_ble_eq_true rfl⟩ rfl ⟨_, _, rfl⟩ (Nat.le_of_ble_eq_true rfl) rfl rfl (Nat.le_of_ble_eq_true rfl) (v_X9_worth (b := b) (by omega) _) rfl ?_
      refine V.iadd (v := (M 63 7) + (worthF (M 63 (20 + 5 * b)) (M 63 5))) dX9_buys_76 rfl rfl ?_
      refine V.iastN (j := 7) dX9_buys_77 rfl (by decide) (by decide) rfl (M' := (ms M 63 7 ((M 63 7) + (worthF (M 63 (20 + 5 * b)) (M 63 5))))) rfl rfl ?_
      refine V.aload_n dX9_buys_78 rfl rfl rfl ?_
      refine V.getr dX9_buys_79 fg_X9_7 rfl rfl rfl ?_
      refine V.iload dX9_buys_82 rfl rfl ?_
      refine V.iconst (v := 1) dX9_buys_84 rfl rfl ?_
      refine V.calls_i (M1 := (ms M 63 7 ((M 63 7) + (worthF (M 63 (20 + 5 * b)) (M 63 5))))) (v := nI (20 + 5 * b + 1)) (md' := m_X9_where) (As := [.int (nI b), .int 1]) (rest := [.ref 63]) dX9_buys_85 ml_X9_45 mo_X9_where ⟨Nat.le_of_ble_eq_true rfl, Nat.le_of_ble_eq_true rfl⟩ (Nat.le_of_ble_eq_true rfl) rfl rfl (Nat.le_of_ble_eq_true rfl) (v_X9_where b 1 _) rfl ?_
      refine V.dup2 dX9_buys_88 rfl rfl rfl ?_
      refine V.ialdN (j := 20 + 5 * b + 1) (v := M 63 (20 + 5 * b + 1)) dX9_buys_89 rfl (by omega) (by decide) rfl (by rw [ms_j (by omega)]) rfl ?_
      refine V.iconst (v := 1) dX9_buys_90 rfl rfl ?_
      refine V.isub (v := (M 63 (20 + 5 * b + 1)) - 1) dX9_buys_91 rfl rfl ?_
      refine V.iastN (j := 20 + 5 * b + 1) dX9_buys_92 rfl (by omega) (by decide) rfl (M' := (ms (ms M 63 7 ((M 63 7) + (worthF (M 63 (20 + 5 * b)) (M 63 5)))) 63 (20 + 5 * b + 1) ((M 63 (20 + 5 * b + 1)) - 1))) rfl rfl ?_
      refine V.aload_n dX9_buys_93 rfl rfl rfl ?_
      refine V.getr dX9_buys_94 fg_X9_7 rfl rfl rfl ?_
      refine V.bipush (v := 10) dX9_buys_97 (by decide) rfl ?_
      refine V.dup2 dX9_buys_99 rfl rfl rfl ?_
      refine V.ialdN (j := 10) (v := M 63 10) dX9_buys_100 rfl (by decide) (by decide) rfl (by rw [ms_j (by omega), ms_j (by decide)]) rfl ?_
      refine V.iconst (v := 1) dX9_buys_101 rfl rfl ?_
      refine V.iadd (v := (M 63 10) + 1) dX9_buys_102 rfl rfl ?_
      refine V.iastN (j := 10) dX9_buys_103 rfl (by decide) (by decide) rfl (M' := (ms (ms (ms M 63 7 ((M 63 7) + (worthF (M 63 (20 + 5 * b)) (M 63 5)))) 63 (20 + 5 * b + 1) ((M 63 (20 + 5 * b + 1)) - 1)) 63 10 ((M 63 10) + 1))) rfl rfl ?_
      refine V.inc (v := nI (i + 1)) dX9_buys_104 rfl (nI_1 _) (by decide) (L' := [(0, .ref 62), (1, .int (nI q)), (2, .int (nI (i + 1))), (3, .int (nI b)), (4, .int (nI b))]) rfl rfl ?_
      refine V.goto (pc' := 2) dX9_buys_107 rfl ?_
      refine V.loc (L' := [(0, .ref 62), (1, .int (nI q)), (2, .int (nI (i + 1)))]) (fun zq zh => List.mem_append_left [(3, Value.int (nI b)), (4, Value.int (nI b))] zh) ?_
      rw [show buyG c (n + 1) M = buyG c n (mTake b (worthF (M 63 (20 + 5 * b)) (M 63 5)) M) from by simp only [buyG, ho]]
      exact ih (i + 1) (mTake b (worthF (M 63 (20 + 5 * b)) (M 63 5)) M) (by rw [mTake_j (by decide) (by decide) (by omega)]; exact hM) (by omega)
theorem v_X9_buys {c : Nat} (hc : c ≤ 10) {q : Nat} (hq : q ≤ 100000) (M : Mem) (hM : M 63 1 = nI c) : V m_X9_buys 0 [(0, .ref 62), (1, .int (nI q))] [] M (RT none (buyG c q M)) := by
  refine V.iconst (v := 0) dX9_buys_0 rfl rfl ?_
  refine V.ist_n dX9_buys_1 rfl (by decide) (L' := [(0, .ref 62), (1, .int (nI q)), (2, .int 0)]) rfl rfl ?_
  exact l_X9_buys hc q hq q 0 M hM (by omega)
