/-! Nuts: its cells are e+1 (count at 5) .. e+6 (kind, bags, roast, age, place) -/
theorem v_X4_isFull {e : Nat} (he : isE e) {c : Nat} (hc : c ≤ 10) (M : Mem) (hM : M (e+1) 5 = nI c) : V m_X4_isFull 0 [(0, .ref (e+1))] [] M (RT (some (.int (if 10 ≤ c then 1 else 0))) M) := by
  refine V.aload_n dX4_isFull_0 rfl rfl rfl ?_
  refine V.geti (v := nI c) dX4_isFull_1 fg_X4_27 (sh_nu he) rfl hM rfl ?_
  refine V.bipush (v := 10) dX4_isFull_4 (by decide) rfl ?_
  refine V.icmp_lt (tgt := 13) dX4_isFull_6 rfl rfl (fun c6 => ?_) (fun c6 => ?_)
  · have d6 : ¬ 10 ≤ c := by have := (nI_ltI (a := c) (b := 10) (by omega) (by decide)).mp c6; omega
    refine V.iconst (v := 0) dX4_isFull_13 rfl rfl ?_
    exact V.ret dX4_isFull_14 rfl rfl ⟨(by simp [*]), rfl⟩
  · have d6 : 10 ≤ c := by have := mt (nI_ltI (a := c) (b := 10) (by omega) (by decide)).mpr c6; omega
    refine V.iconst (v := 1) dX4_isFull_9 rfl rfl ?_
    refine V.goto (pc' := 14) dX4_isFull_10 rfl ?_
    exact V.ret dX4_isFull_14 rfl rfl ⟨(by simp [*]), rfl⟩
def nAddM (e c : Nat) (k : Int32) (M : Mem) : Mem := ms (ms (ms (ms (ms (ms M (e+2) c k) (e+3) c 9) (e+4) c 0) (e+5) c 0) (e+6) c 0) (e+1) 5 (nI (c+1))
theorem v_X4_add {e : Nat} (he : isE e) {c : Nat} (hc : c < 10) (k : Int32) (M : Mem) (hM : M (e+1) 5 = nI c) : V m_X4_add 0 [(0, .ref (e+1)), (1, .int k)] [] M (RT (some (.int (nI c))) (nAddM e c k M)) := by
  refine V.aload_n dX4_add_0 rfl rfl rfl ?_
  refine V.geti (v := nI c) dX4_add_1 fg_X4_27 (sh_nu he) rfl hM rfl ?_
  refine V.ist_n dX4_add_4 rfl (by decide) (L' := [(0, .ref (e+1)), (1, .int k), (2, .int (nI c))]) rfl rfl ?_
  refine V.aload_n dX4_add_5 rfl rfl rfl ?_
  refine V.getr dX4_add_6 fg_X4_9 (sh_nu he) rfl rfl ?_
  refine V.iload_n dX4_add_9 rfl rfl rfl ?_
  refine V.iload_n dX4_add_10 rfl rfl rfl ?_
  refine V.iastN (j := c) dX4_add_11 (sh_a2 he) (by omega) (by decide) rfl (M' := (ms M (e+2) c k)) rfl rfl ?_
  refine V.aload_n dX4_add_12 rfl rfl rfl ?_
  refine V.getr dX4_add_13 fg_X4_15 (sh_nu he) rfl rfl ?_
  refine V.iload_n dX4_add_16 rfl rfl rfl ?_
  refine V.bipush (v := 9) dX4_add_17 (by decide) rfl ?_
  refine V.iastN (j := c) dX4_add_19 (sh_a3 he) (by omega) (by decide) rfl (M' := (ms (ms M (e+2) c k) (e+3) c 9)) rfl rfl ?_
  refine V.aload_n dX4_add_20 rfl rfl rfl ?_
  refine V.getr dX4_add_21 fg_X4_18 (sh_nu he) rfl rfl ?_
  refine V.iload_n dX4_add_24 rfl rfl rfl ?_
  refine V.iconst (v := 0) dX4_add_25 rfl rfl ?_
  refine V.iastN (j := c) dX4_add_26 (sh_a4 he) (by omega) (by decide) rfl (M' := (ms (ms (ms M (e+2) c k) (e+3) c 9) (e+4) c 0)) rfl rfl ?_
  refine V.aload_n dX4_add_27 rfl rfl rfl ?_
  refine V.getr dX4_add_28 fg_X4_21 (sh_nu he) rfl rfl ?_
  refine V.iload_n dX4_add_31 rfl rfl rfl ?_
  refine V.iconst (v := 0) dX4_add_32 rfl rfl ?_
  refine V.iastN (j := c) dX4_add_33 (sh_a5 he) (by omega) (by decide) rfl (M' := (ms (ms (ms (ms M (e+2) c k) (e+3) c 9) (e+4) c 0) (e+5) c 0)) rfl rfl ?_
  refine V.aload_n dX4_add_34 rfl rfl rfl ?_
  refine V.getr dX4_add_35 fg_X4_24 (sh_nu he) rfl rfl ?_
  refine V.iload_n dX4_add_38 rfl rfl rfl ?_
  refine V.iconst (v := 0) dX4_add_39 rfl rfl ?_
  refine V.iastN (j := c) dX4_add_40 (sh_a6 he) (by omega) (by decide) rfl (M' := (ms (ms (ms (ms (ms M (e+2) c k) (e+3) c 9) (e+4) c 0) (e+5) c 0) (e+6) c 0)) rfl rfl ?_
  refine V.aload_n dX4_add_41 rfl rfl rfl ?_
  refine V.dup dX4_add_42 rfl rfl ?_
  refine V.geti (v := nI c) dX4_add_43 fg_X4_27 (sh_nu he) rfl (by simp [ms, hM]) rfl ?_
  refine V.iconst (v := 1) dX4_add_46 rfl rfl ?_
  refine V.iadd (v := nI (c + 1)) dX4_add_47 (nI_add _ _) rfl ?_
  refine V.puti dX4_add_48 fp_X4_27 (sh_nu he) rfl rfl rfl (M' := (ms (ms (ms (ms (ms (ms M (e+2) c k) (e+3) c 9) (e+4) c 0) (e+5) c 0) (e+6) c 0) (e+1) 5 (nI (c + 1)))) rfl rfl ?_
  refine V.iload_n dX4_add_51 rfl rfl rfl ?_
  exact V.ret dX4_add_52 rfl rfl ⟨rfl, rfl⟩
theorem v_X4_isGone {e : Nat} (he : isE e) {b : Nat} (hb : b < 10) (M : Mem) : V m_X4_isGone 0 [(0, .ref (e+1)), (1, .int (nI b))] [] M (RT (some (.int (if M (e+6) b = 4 then 1 else 0))) M) := by
  refine V.aload_n dX4_isGone_0 rfl rfl rfl ?_
  refine V.getr dX4_isGone_1 fg_X4_24 (sh_nu he) rfl rfl ?_
  refine V.iload_n dX4_isGone_4 rfl rfl rfl ?_
  refine V.ialdN (j := b) (v := M (e+6) b) dX4_isGone_5 (sh_a6 he) (by omega) (by decide) rfl rfl rfl ?_
  refine V.iconst (v := 4) dX4_isGone_6 rfl rfl ?_
  refine V.icmp_ne (tgt := 14) dX4_isGone_7 rfl rfl (fun c7 => ?_) (fun c7 => ?_)
  · skip
    refine V.iconst (v := 0) dX4_isGone_14 rfl rfl ?_
    exact V.ret dX4_isGone_15 rfl rfl ⟨(by simp [*]), rfl⟩
  · skip
    refine V.iconst (v := 1) dX4_isGone_10 rfl rfl ?_
    refine V.goto (pc' := 15) dX4_isGone_11 rfl ?_
    exact V.ret dX4_isGone_15 rfl rfl ⟨(by simp [*]), rfl⟩
theorem v_X4_isOverFire {e : Nat} (he : isE e) {b : Nat} (hb : b < 10) (M : Mem) : V m_X4_isOverFire 0 [(0, .ref (e+1)), (1, .int (nI b))] [] M (RT (some (.int (if M (e+6) b = 1 ∨ M (e+6) b = 2 then 1 else 0))) M) := by
  refine V.aload_n dX4_isOverFire_0 rfl rfl rfl ?_
  refine V.getr dX4_isOverFire_1 fg_X4_24 (sh_nu he) rfl rfl ?_
  refine V.iload_n dX4_isOverFire_4 rfl rfl rfl ?_
  refine V.ialdN (j := b) (v := M (e+6) b) dX4_isOverFire_5 (sh_a6 he) (by omega) (by decide) rfl rfl rfl ?_
  refine V.iconst (v := 1) dX4_isOverFire_6 rfl rfl ?_
  refine V.icmp_eq (tgt := 20) dX4_isOverFire_7 rfl rfl (fun c7 => ?_) (fun c7 => ?_)
  · skip
    refine V.iconst (v := 1) dX4_isOverFire_20 rfl rfl ?_
    refine V.goto (pc' := 25) dX4_isOverFire_21 rfl ?_
    exact V.ret dX4_isOverFire_25 rfl rfl ⟨(by simp [*]), rfl⟩
  · skip
    refine V.aload_n dX4_isOverFire_10 rfl rfl rfl ?_
    refine V.getr dX4_isOverFire_11 fg_X4_24 (sh_nu he) rfl rfl ?_
    refine V.iload_n dX4_isOverFire_14 rfl rfl rfl ?_
    refine V.ialdN (j := b) (v := M (e+6) b) dX4_isOverFire_15 (sh_a6 he) (by omega) (by decide) rfl rfl rfl ?_
    refine V.iconst (v := 2) dX4_isOverFire_16 rfl rfl ?_
    refine V.icmp_ne (tgt := 24) dX4_isOverFire_17 rfl rfl (fun c17 => ?_) (fun c17 => ?_)
    · skip
      refine V.iconst (v := 0) dX4_isOverFire_24 rfl rfl ?_
      exact V.ret dX4_isOverFire_25 rfl rfl ⟨(by simp [*]), rfl⟩
    · skip
      refine V.iconst (v := 1) dX4_isOverFire_20 rfl rfl ?_
      refine V.goto (pc' := 25) dX4_isOverFire_21 rfl ?_
      exact V.ret dX4_isOverFire_25 rfl rfl ⟨(by simp [*]), rfl⟩
def rdyP (M : Mem) (e b : Nat) : Prop := ¬ M (e+6) b = 4 ∧ readyF (M (e+2) b) ≤ M (e+4) b
def bntP (M : Mem) (e b : Nat) : Prop := burntF (M (e+2) b) ≤ M (e+4) b
theorem rdyP_d (M : Mem) (e b : Nat) : rdyP M e b ∨ ¬ rdyP M e b := Classical.em _
noncomputable section
theorem v_X4_isReady {e : Nat} (he : isE e) {b : Nat} (hb : b < 10) (M : Mem) : V m_X4_isReady 0 [(0, .ref (e+1)), (1, .int (nI b))] [] M (RT (some (.int (if ¬ M (e+6) b = 4 ∧ readyF (M (e+2) b) ≤ M (e+4) b then 1 else 0))) M) := by
  refine V.aload_n dX4_isReady_0 rfl rfl rfl ?_
  refine V.getr dX4_isReady_1 fg_X4_24 (sh_nu he) rfl rfl ?_
  refine V.iload_n dX4_isReady_4 rfl rfl rfl ?_
  refine V.ialdN (j := b) (v := M (e+6) b) dX4_isReady_5 (sh_a6 he) (by omega) (by decide) rfl rfl rfl ?_
  refine V.iconst (v := 4) dX4_isReady_6 rfl rfl ?_
  refine V.icmp_eq (tgt := 32) dX4_isReady_7 rfl rfl (fun c7 => ?_) (fun c7 => ?_)
  · skip
    refine V.iconst (v := 0) dX4_isReady_32 rfl rfl ?_
    exact V.ret dX4_isReady_33 rfl rfl ⟨(by simp [*]), rfl⟩
  · skip
    refine V.aload_n dX4_isReady_10 rfl rfl rfl ?_
    refine V.getr dX4_isReady_11 fg_X4_18 (sh_nu he) rfl rfl ?_
    refine V.iload_n dX4_isReady_14 rfl rfl rfl ?_
    refine V.ialdN (j := b) (v := M (e+4) b) dX4_isReady_15 (sh_a4 he) (by omega) (by decide) rfl rfl rfl ?_
    refine V.aload_n dX4_isReady_16 rfl rfl rfl ?_
    refine V.getr dX4_isReady_17 fg_X4_9 (sh_nu he) rfl rfl ?_
    refine V.iload_n dX4_isReady_20 rfl rfl rfl ?_
    refine V.ialdN (j := b) (v := M (e+2) b) dX4_isReady_21 (sh_a2 he) (by omega) (by decide) rfl rfl rfl ?_
    refine V.calls_i (M1 := M) (v := readyF (M (e+2) b)) (md' := m_X3_readyFrom) (As := [.int (M (e+2) b)]) (rest := [.int (M (e+4) b)]) dX4_isReady_22 ml_X4_37 mo_X3_readyFrom ⟨Nat.le_of_ble_eq_true rfl, Nat.le_of_ble_eq_true rfl⟩ (Nat.le_of_ble_eq_true rfl) rfl rfl (Nat.le_of_ble_eq_true rfl) (v_X3_readyFrom (M (e+2) b) _) rfl ?_
    refine V.icmp_lt (tgt := 32) dX4_isReady_25 rfl rfl (fun c25 => ?_) (fun c25 => ?_)
    · have d25 := Int32.not_le.mpr c25
      refine V.iconst (v := 0) dX4_isReady_32 rfl rfl ?_
      exact V.ret dX4_isReady_33 rfl rfl ⟨(by simp [*]), rfl⟩
    · have d25 := Int32.not_lt.mp c25
      refine V.iconst (v := 1) dX4_isReady_28 rfl rfl ?_
      refine V.goto (pc' := 33) dX4_isReady_29 rfl ?_
      exact V.ret dX4_isReady_33 rfl rfl ⟨(by simp [*]), rfl⟩
theorem v_X4_isBurnt {e : Nat} (he : isE e) {b : Nat} (hb : b < 10) (M : Mem) : V m_X4_isBurnt 0 [(0, .ref (e+1)), (1, .int (nI b))] [] M (RT (some (.int (if burntF (M (e+2) b) ≤ M (e+4) b then 1 else 0))) M) := by
  refine V.aload_n dX4_isBurnt_0 rfl rfl rfl ?_
  refine V.getr dX4_isBurnt_1 fg_X4_18 (sh_nu he) rfl rfl ?_
  refine V.iload_n dX4_isBurnt_4 rfl rfl rfl ?_
  refine V.ialdN (j := b) (v := M (e+4) b) dX4_isBurnt_5 (sh_a4 he) (by omega) (by decide) rfl rfl rfl ?_
  refine V.aload_n dX4_isBurnt_6 rfl rfl rfl ?_
  refine V.getr dX4_isBurnt_7 fg_X4_9 (sh_nu he) rfl rfl ?_
  refine V.iload_n dX4_isBurnt_10 rfl rfl rfl ?_
  refine V.ialdN (j := b) (v := M (e+2) b) dX4_isBurnt_11 (sh_a2 he) (by omega) (by decide) rfl rfl rfl ?_
  refine V.calls_i (M1 := M) (v := burntF (M (e+2) b)) (md' := m_X3_burntFrom) (As := [.int (M (e+2) b)]) (rest := [.int (M (e+4) b)]) dX4_isBurnt_12 ml_X4_43 mo_X3_burntFrom ⟨Nat.le_of_ble_eq_true rfl, Nat.le_of_ble_eq_true rfl⟩ (Nat.le_of_ble_eq_true rfl) rfl rfl (Nat.le_of_ble_eq_true rfl) (v_X3_burntFrom (M (e+2) b) _) rfl ?_
  refine V.icmp_lt (tgt := 22) dX4_isBurnt_15 rfl rfl (fun c15 => ?_) (fun c15 => ?_)
  · have d15 := Int32.not_le.mpr c15
    refine V.iconst (v := 0) dX4_isBurnt_22 rfl rfl ?_
    exact V.ret dX4_isBurnt_23 rfl rfl ⟨(by simp [*]), rfl⟩
  · have d15 := Int32.not_lt.mp c15
    refine V.iconst (v := 1) dX4_isBurnt_18 rfl rfl ?_
    refine V.goto (pc' := 23) dX4_isBurnt_19 rfl ?_
    exact V.ret dX4_isBurnt_23 rfl rfl ⟨(by simp [*]), rfl⟩
end
def layM (e b : Nat) (p : Int32) (M : Mem) : Mem := if p = 4 then ms (ms M (e+6) b p) (e+3) b 0 else if p = 3 then ms (ms M (e+6) b p) (e+5) b 0 else ms M (e+6) b p
def layV (e b : Nat) (p : Int32) (M : Mem) : Int32 := if p = 4 then M (e+3) b else 0
theorem v_X4_lay {e : Nat} (he : isE e) {b : Nat} (hb : b < 10) (p : Int32) (M : Mem) : V m_X4_lay 0 [(0, .ref (e+1)), (1, .int (nI b)), (2, .int p)] [] M (RT (some (.int (layV e b p M))) (layM e b p M)) := by
  refine V.aload_n dX4_lay_0 rfl rfl rfl ?_
  refine V.getr dX4_lay_1 fg_X4_24 (sh_nu he) rfl rfl ?_
  refine V.iload_n dX4_lay_4 rfl rfl rfl ?_
  refine V.iload_n dX4_lay_5 rfl rfl rfl ?_
  refine V.iastN (j := b) dX4_lay_6 (sh_a6 he) (by omega) (by decide) rfl (M' := (ms M (e+6) b p)) rfl rfl ?_
  refine V.iload_n dX4_lay_7 rfl rfl rfl ?_
  refine V.iconst (v := 3) dX4_lay_8 rfl rfl ?_
  refine V.icmp_ne (tgt := 19) dX4_lay_9 rfl rfl (fun c9 => ?_) (fun c9 => ?_)
  · skip
    refine V.iload_n dX4_lay_19 rfl rfl rfl ?_
    refine V.iconst (v := 4) dX4_lay_20 rfl rfl ?_
    refine V.icmp_eq (tgt := 26) dX4_lay_21 rfl rfl (fun c21 => ?_) (fun c21 => ?_)
    · skip
      refine V.aload_n dX4_lay_26 rfl rfl rfl ?_
      refine V.getr dX4_lay_27 fg_X4_15 (sh_nu he) rfl rfl ?_
      refine V.iload_n dX4_lay_30 rfl rfl rfl ?_
      refine V.ialdN (j := b) (v := M (e+3) b) dX4_lay_31 (sh_a3 he) (by omega) (by decide) rfl (by simp [ms]) rfl ?_
      refine V.ist_n dX4_lay_32 rfl (by decide) (L' := [(0, .ref (e+1)), (1, .int (nI b)), (2, .int p), (3, .int (M (e+3) b))]) rfl rfl ?_
      refine V.aload_n dX4_lay_33 rfl rfl rfl ?_
      refine V.getr dX4_lay_34 fg_X4_15 (sh_nu he) rfl rfl ?_
      refine V.iload_n dX4_lay_37 rfl rfl rfl ?_
      refine V.iconst (v := 0) dX4_lay_38 rfl rfl ?_
      refine V.iastN (j := b) dX4_lay_39 (sh_a3 he) (by omega) (by decide) rfl (M' := (ms (ms M (e+6) b p) (e+3) b 0)) rfl rfl ?_
      refine V.iload_n dX4_lay_40 rfl rfl rfl ?_
      exact V.ret dX4_lay_41 rfl rfl ⟨(by simp_all [layV]), (by simp_all [layM])⟩
    · skip
      refine V.iconst (v := 0) dX4_lay_24 rfl rfl ?_
      exact V.ret dX4_lay_25 rfl rfl ⟨(by simp_all [layV]), (by simp_all [layM])⟩
  · skip
    refine V.aload_n dX4_lay_12 rfl rfl rfl ?_
    refine V.getr dX4_lay_13 fg_X4_21 (sh_nu he) rfl rfl ?_
    refine V.iload_n dX4_lay_16 rfl rfl rfl ?_
    refine V.iconst (v := 0) dX4_lay_17 rfl rfl ?_
    refine V.iastN (j := b) dX4_lay_18 (sh_a5 he) (by omega) (by decide) rfl (M' := (ms (ms M (e+6) b p) (e+5) b 0)) rfl rfl ?_
    refine V.iload_n dX4_lay_19 rfl rfl rfl ?_
    refine V.iconst (v := 4) dX4_lay_20 rfl rfl ?_
    refine V.icmp_eq (tgt := 26) dX4_lay_21 rfl rfl (fun c21 => ?_) (fun c21 => ?_)
    · skip
      refine V.aload_n dX4_lay_26 rfl rfl rfl ?_
      refine V.getr dX4_lay_27 fg_X4_15 (sh_nu he) rfl rfl ?_
      refine V.iload_n dX4_lay_30 rfl rfl rfl ?_
      refine V.ialdN (j := b) (v := M (e+3) b) dX4_lay_31 (sh_a3 he) (by omega) (by decide) rfl (by simp [ms]) rfl ?_
      refine V.ist_n dX4_lay_32 rfl (by decide) (L' := [(0, .ref (e+1)), (1, .int (nI b)), (2, .int p), (3, .int (M (e+3) b))]) rfl rfl ?_
      refine V.aload_n dX4_lay_33 rfl rfl rfl ?_
      refine V.getr dX4_lay_34 fg_X4_15 (sh_nu he) rfl rfl ?_
      refine V.iload_n dX4_lay_37 rfl rfl rfl ?_
      refine V.iconst (v := 0) dX4_lay_38 rfl rfl ?_
      refine V.iastN (j := b) dX4_lay_39 (sh_a3 he) (by omega) (by decide) rfl (M' := (ms (ms (ms M (e+6) b p) (e+5) b 0) (e+3) b 0)) rfl rfl ?_
      refine V.iload_n dX4_lay_40 rfl rfl rfl ?_
      exact V.ret dX4_lay_41 rfl rfl ⟨(by simp_all [layV]), (by simp_all [layM])⟩
    · skip
      refine V.iconst (v := 0) dX4_lay_24 rfl rfl ?_
      exact V.ret dX4_lay_25 rfl rfl ⟨(by simp_all [layV]), (by simp_all [layM])⟩
def rbM (e b : Nat) (m : Int32) (M : Mem) : Mem := ms M (e+4) b (if M (e+4) b + m < 999 then M (e+4) b + m else 999)
theorem v_X4_roastBy {e : Nat} (he : isE e) {b : Nat} (hb : b < 10) (m : Int32) (M : Mem) : V m_X4_roastBy 0 [(0, .ref (e+1)), (1, .int (nI b)), (2, .int m)] [] M (RT none (rbM e b m M)) := by
  refine V.aload_n dX4_roastBy_0 rfl rfl rfl ?_
  refine V.getr dX4_roastBy_1 fg_X4_18 (sh_nu he) rfl rfl ?_
  refine V.iload_n dX4_roastBy_4 rfl rfl rfl ?_
  refine V.sipush (v := 999) dX4_roastBy_5 (by decide) rfl ?_
  refine V.aload_n dX4_roastBy_8 rfl rfl rfl ?_
  refine V.getr dX4_roastBy_9 fg_X4_18 (sh_nu he) rfl rfl ?_
  refine V.iload_n dX4_roastBy_12 rfl rfl rfl ?_
  refine V.ialdN (j := b) (v := M (e+4) b) dX4_roastBy_13 (sh_a4 he) (by omega) (by decide) rfl rfl rfl ?_
  refine V.iload_n dX4_roastBy_14 rfl rfl rfl ?_
  refine V.iadd (v := (M (e+4) b) + m) dX4_roastBy_15 rfl rfl ?_
  refine V.mmin (v := if ((M (e+4) b) + m) < 999 then ((M (e+4) b) + m) else 999) dX4_roastBy_16 mm_X4_69 ⟨Nat.le_of_ble_eq_true rfl, Nat.le_of_ble_eq_true rfl⟩ rfl rfl ?_
  refine V.iastN (j := b) dX4_roastBy_19 (sh_a4 he) (by omega) (by decide) rfl (M' := (ms M (e+4) b (if ((M (e+4) b) + m) < 999 then ((M (e+4) b) + m) else 999))) rfl rfl ?_
  exact V.vret dX4_roastBy_20 rfl ⟨rfl, rfl⟩
def setG (f : Nat → Int32) (a : Int32) : Nat → Nat → Int32 → Int32
  | 0, _, s => s
  | n + 1, i, s => setG f a n (i + 1) (if f i = a then s ||| (1 <<< (nI i &&& 31)) else s)
def sumG (f : Nat → Int32) : Nat → Nat → Int32 → Int32
  | 0, _, s => s
  | n + 1, i, s => sumG f n (i + 1) (s + f i)
def sumN (f p : Nat → Int32) : Nat → Nat → Int32 → Int32
  | 0, _, s => s
  | n + 1, i, s => sumN f p n (i + 1) (if p i = 4 then s else s + f i)
theorem l_X4_setAt {e : Nat} (he : isE e) {c : Nat} (hc : c ≤ 10) (a : Int32) (M : Mem) (hM : M (e+1) 5 = nI c) : ∀ (n i : Nat) (s : Int32), i + n = c → V m_X4_setAt 4 [(0, .ref (e+1)), (1, .int a), (2, .int s), (3, .int (nI i))] [] M (RT (some (.int (setG (M (e+6)) a n i s))) M) := by
  intro n
  induction n with
  | zero =>
    intro i s hi
    refine V.iload_n dX4_setAt_4 rfl rfl rfl ?_
    refine V.aload_n dX4_setAt_5 rfl rfl rfl ?_
    refine V.geti (v := nI c) dX4_setAt_6 fg_X4_27 (sh_nu he) rfl hM rfl ?_
    refine V.icmp_ge (tgt := 34) dX4_setAt_9 rfl rfl (fun c9 => ?_) (fun c9 => absurd ((nI_leI (a := c) (b := i) (by omega) (by omega)).mpr (by omega)) c9)
    have c9 : c ≤ i := (nI_leI (a := c) (b := i) (by omega) (by omega)).mp c9
    refine V.iload_n dX4_setAt_34 rfl rfl rfl ?_
    exact V.ret dX4_setAt_35 rfl rfl ⟨rfl, rfl⟩
  | succ n ih =>
    intro i s hi
    refine V.iload_n dX4_setAt_4 rfl rfl rfl ?_
    refine V.aload_n dX4_setAt_5 rfl rfl rfl ?_
    refine V.geti (v := nI c) dX4_setAt_6 fg_X4_27 (sh_nu he) rfl hM rfl ?_
    refine V.icmp_ge (tgt := 34) dX4_setAt_9 rfl rfl (fun c9 => absurd ((nI_leI (a := c) (b := i) (by omega) (by omega)).mp c9) (by omega)) (fun c9 => ?_)
    have c9 : ¬ c ≤ i := fun q => c9 ((nI_leI (a := c) (b := i) (by omega) (by omega)).mpr q)
    refine V.aload_n dX4_setAt_12 rfl rfl rfl ?_
    refine V.getr dX4_setAt_13 fg_X4_24 (sh_nu he) rfl rfl ?_
    refine V.iload_n dX4_setAt_16 rfl rfl rfl ?_
    refine V.ialdN (j := i) (v := M (e+6) i) dX4_setAt_17 (sh_a6 he) (by omega) (by decide) rfl rfl rfl ?_
    refine V.iload_n dX4_setAt_18 rfl rfl rfl ?_
    refine V.icmp_ne (tgt := 28) dX4_setAt_19 rfl rfl (fun c19 => ?_) (fun c19 => ?_)
    · skip
      refine V.inc (v := nI (i + 1)) dX4_setAt_28 rfl (nI_1 _) (by decide) (L' := [(0, .ref (e+1)), (1, .int a), (2, .int s), (3, .int (nI (i + 1)))]) rfl rfl ?_
      refine V.goto (pc' := 4) dX4_setAt_31 rfl ?_
      rw [show setG (M (e+6)) a (n + 1) i s = setG (M (e+6)) a n (i + 1) s from by simp [setG, c9, c19]]
      exact ih (i + 1) _ (by omega)
    · skip
      refine V.iload_n dX4_setAt_22 rfl rfl rfl ?_
      refine V.iconst (v := 1) dX4_setAt_23 rfl rfl ?_
      refine V.iload_n dX4_setAt_24 rfl rfl rfl ?_
      refine V.ishl (v := 1 <<< ((nI i) &&& 31)) dX4_setAt_25 rfl rfl ?_
      refine V.ior (v := s ||| (1 <<< ((nI i) &&& 31))) dX4_setAt_26 rfl rfl ?_
      refine V.ist_n dX4_setAt_27 rfl (by decide) (L' := [(0, .ref (e+1)), (1, .int a), (2, .int (s ||| (1 <<< ((nI i) &&& 31)))), (3, .int (nI i))]) rfl rfl ?_
      refine V.inc (v := nI (i + 1)) dX4_setAt_28 rfl (nI_1 _) (by decide) (L' := [(0, .ref (e+1)), (1, .int a), (2, .int (s ||| (1 <<< ((nI i) &&& 31)))), (3, .int (nI (i + 1)))]) rfl rfl ?_
      refine V.goto (pc' := 4) dX4_setAt_31 rfl ?_
      rw [show setG (M (e+6)) a (n + 1) i s = setG (M (e+6)) a n (i + 1) (s ||| (1 <<< ((nI i) &&& 31))) from by simp [setG, c9, c19]]
      exact ih (i + 1) _ (by omega)
theorem v_X4_setAt {e : Nat} (he : isE e) {c : Nat} (hc : c ≤ 10) (a : Int32) (M : Mem) (hM : M (e+1) 5 = nI c) : V m_X4_setAt 0 [(0, .ref (e+1)), (1, .int a)] [] M (RT (some (.int (setG (M (e+6)) a c 0 0))) M) := by
  refine V.iconst (v := 0) dX4_setAt_0 rfl rfl ?_
  refine V.ist_n dX4_setAt_1 rfl (by decide) (L' := [(0, .ref (e+1)), (1, .int a), (2, .int 0)]) rfl rfl ?_
  refine V.iconst (v := 0) dX4_setAt_2 rfl rfl ?_
  refine V.ist_n dX4_setAt_3 rfl (by decide) (L' := [(0, .ref (e+1)), (1, .int a), (2, .int 0), (3, .int 0)]) rfl rfl ?_
  exact l_X4_setAt he hc a M hM c 0 0 (by omega)
theorem l_X4_bagsOfAll {e : Nat} (he : isE e) {c : Nat} (hc : c ≤ 10) (M : Mem) (hM : M (e+1) 5 = nI c) : ∀ (n i : Nat) (s : Int32), i + n = c → V m_X4_bagsOfAll 4 [(0, .ref (e+1)), (1, .int s), (2, .int (nI i))] [] M (RT (some (.int (sumG (M (e+3)) n i s))) M) := by
  intro n
  induction n with
  | zero =>
    intro i s hi
    refine V.iload_n dX4_bagsOfAll_4 rfl rfl rfl ?_
    refine V.aload_n dX4_bagsOfAll_5 rfl rfl rfl ?_
    refine V.geti (v := nI c) dX4_bagsOfAll_6 fg_X4_27 (sh_nu he) rfl hM rfl ?_
    refine V.icmp_ge (tgt := 27) dX4_bagsOfAll_9 rfl rfl (fun c9 => ?_) (fun c9 => absurd ((nI_leI (a := c) (b := i) (by omega) (by omega)).mpr (by omega)) c9)
    have c9 : c ≤ i := (nI_leI (a := c) (b := i) (by omega) (by omega)).mp c9
    refine V.iload_n dX4_bagsOfAll_27 rfl rfl rfl ?_
    exact V.ret dX4_bagsOfAll_28 rfl rfl ⟨rfl, rfl⟩
  | succ n ih =>
    intro i s hi
    refine V.iload_n dX4_bagsOfAll_4 rfl rfl rfl ?_
    refine V.aload_n dX4_bagsOfAll_5 rfl rfl rfl ?_
    refine V.geti (v := nI c) dX4_bagsOfAll_6 fg_X4_27 (sh_nu he) rfl hM rfl ?_
    refine V.icmp_ge (tgt := 27) dX4_bagsOfAll_9 rfl rfl (fun c9 => absurd ((nI_leI (a := c) (b := i) (by omega) (by omega)).mp c9) (by omega)) (fun c9 => ?_)
    have c9 : ¬ c ≤ i := fun q => c9 ((nI_leI (a := c) (b := i) (by omega) (by omega)).mpr q)
    refine V.iload_n dX4_bagsOfAll_12 rfl rfl rfl ?_
    refine V.aload_n dX4_bagsOfAll_13 rfl rfl rfl ?_
    refine V.getr dX4_bagsOfAll_14 fg_X4_15 (sh_nu he) rfl rfl ?_
    refine V.iload_n dX4_bagsOfAll_17 rfl rfl rfl ?_
    refine V.ialdN (j := i) (v := M (e+3) i) dX4_bagsOfAll_18 (sh_a3 he) (by omega) (by decide) rfl rfl rfl ?_
    refine V.iadd (v := s + (M (e+3) i)) dX4_bagsOfAll_19 rfl rfl ?_
    refine V.ist_n dX4_bagsOfAll_20 rfl (by decide) (L' := [(0, .ref (e+1)), (1, .int (s + (M (e+3) i))), (2, .int (nI i))]) rfl rfl ?_
    refine V.inc (v := nI (i + 1)) dX4_bagsOfAll_21 rfl (nI_1 _) (by decide) (L' := [(0, .ref (e+1)), (1, .int (s + (M (e+3) i))), (2, .int (nI (i + 1)))]) rfl rfl ?_
    refine V.goto (pc' := 4) dX4_bagsOfAll_24 rfl ?_
    exact ih (i + 1) _ (by omega)
theorem v_X4_bagsOfAll {e : Nat} (he : isE e) {c : Nat} (hc : c ≤ 10) (M : Mem) (hM : M (e+1) 5 = nI c) : V m_X4_bagsOfAll 0 [(0, .ref (e+1))] [] M (RT (some (.int (sumG (M (e+3)) c 0 0))) M) := by
  refine V.iconst (v := 0) dX4_bagsOfAll_0 rfl rfl ?_
  refine V.ist_n dX4_bagsOfAll_1 rfl (by decide) (L' := [(0, .ref (e+1)), (1, .int 0)]) rfl rfl ?_
  refine V.iconst (v := 0) dX4_bagsOfAll_2 rfl rfl ?_
  refine V.ist_n dX4_bagsOfAll_3 rfl (by decide) (L' := [(0, .ref (e+1)), (1, .int 0), (2, .int 0)]) rfl rfl ?_
  exact l_X4_bagsOfAll he hc M hM c 0 0 (by omega)
theorem l_X4_bagsNotGone {e : Nat} (he : isE e) {c : Nat} (hc : c ≤ 10) (M : Mem) (hM : M (e+1) 5 = nI c) : ∀ (n i : Nat) (s : Int32), i + n = c → V m_X4_bagsNotGone 4 [(0, .ref (e+1)), (1, .int s), (2, .int (nI i))] [] M (RT (some (.int (sumN (M (e+3)) (M (e+6)) n i s))) M) := by
  intro n
  induction n with
  | zero =>
    intro i s hi
    refine V.iload_n dX4_bagsNotGone_4 rfl rfl rfl ?_
    refine V.aload_n dX4_bagsNotGone_5 rfl rfl rfl ?_
    refine V.geti (v := nI c) dX4_bagsNotGone_6 fg_X4_27 (sh_nu he) rfl hM rfl ?_
    refine V.icmp_ge (tgt := 35) dX4_bagsNotGone_9 rfl rfl (fun c9 => ?_) (fun c9 => absurd ((nI_leI (a := c) (b := i) (by omega) (by omega)).mpr (by omega)) c9)
    have c9 : c ≤ i := (nI_leI (a := c) (b := i) (by omega) (by omega)).mp c9
    refine V.iload_n dX4_bagsNotGone_35 rfl rfl rfl ?_
    exact V.ret dX4_bagsNotGone_36 rfl rfl ⟨rfl, rfl⟩
  | succ n ih =>
    intro i s hi
    refine V.iload_n dX4_bagsNotGone_4 rfl rfl rfl ?_
    refine V.aload_n dX4_bagsNotGone_5 rfl rfl rfl ?_
    refine V.geti (v := nI c) dX4_bagsNotGone_6 fg_X4_27 (sh_nu he) rfl hM rfl ?_
    refine V.icmp_ge (tgt := 35) dX4_bagsNotGone_9 rfl rfl (fun c9 => absurd ((nI_leI (a := c) (b := i) (by omega) (by omega)).mp c9) (by omega)) (fun c9 => ?_)
    have c9 : ¬ c ≤ i := fun q => c9 ((nI_leI (a := c) (b := i) (by omega) (by omega)).mpr q)
    refine V.aload_n dX4_bagsNotGone_12 rfl rfl rfl ?_
    refine V.iload_n dX4_bagsNotGone_13 rfl rfl rfl ?_
    refine V.callv_i (M1 := M) (v := if M (e+6) i = 4 then 1 else 0) (md' := m_X4_isGone) (As := [.int (nI i)]) (rest := []) dX4_bagsNotGone_14 ml_X4_84 mo_X4_isGone ⟨Nat.le_of_ble_eq_true rfl, Nat.le_of_ble_eq_true rfl⟩ (sh_nu he) ⟨_, _, rfl⟩ (Nat.le_of_ble_eq_true rfl) rfl rfl (Nat.le_of_ble_eq_true rfl) (v_X4_isGone he (b := i) (by omega) _) rfl ?_
    refine V.ifb_ne (tgt := 29) dX4_bagsNotGone_17 rfl rfl (fun c17 => ?_) (fun c17 => ?_)
    · skip
      refine V.inc (v := nI (i + 1)) dX4_bagsNotGone_29 rfl (nI_1 _) (by decide) (L' := [(0, .ref (e+1)), (1, .int s), (2, .int (nI (i + 1)))]) rfl rfl ?_
      refine V.goto (pc' := 4) dX4_bagsNotGone_32 rfl ?_
      rw [show sumN (M (e+3)) (M (e+6)) (n + 1) i s = sumN (M (e+3)) (M (e+6)) n (i + 1) s from by simp [sumN, c9, c17]]
      exact ih (i + 1) _ (by omega)
    · skip
      refine V.iload_n dX4_bagsNotGone_20 rfl rfl rfl ?_
      refine V.aload_n dX4_bagsNotGone_21 rfl rfl rfl ?_
      refine V.getr dX4_bagsNotGone_22 fg_X4_15 (sh_nu he) rfl rfl ?_
      refine V.iload_n dX4_bagsNotGone_25 rfl rfl rfl ?_
      refine V.ialdN (j := i) (v := M (e+3) i) dX4_bagsNotGone_26 (sh_a3 he) (by omega) (by decide) rfl rfl rfl ?_
      refine V.iadd (v := s + (M (e+3) i)) dX4_bagsNotGone_27 rfl rfl ?_
      refine V.ist_n dX4_bagsNotGone_28 rfl (by decide) (L' := [(0, .ref (e+1)), (1, .int (s + (M (e+3) i))), (2, .int (nI i))]) rfl rfl ?_
      refine V.inc (v := nI (i + 1)) dX4_bagsNotGone_29 rfl (nI_1 _) (by decide) (L' := [(0, .ref (e+1)), (1, .int (s + (M (e+3) i))), (2, .int (nI (i + 1)))]) rfl rfl ?_
      refine V.goto (pc' := 4) dX4_bagsNotGone_32 rfl ?_
      rw [show sumN (M (e+3)) (M (e+6)) (n + 1) i s = sumN (M (e+3)) (M (e+6)) n (i + 1) (s + (M (e+3) i)) from by simp [sumN, c9, c17]]
      exact ih (i + 1) _ (by omega)
theorem v_X4_bagsNotGone {e : Nat} (he : isE e) {c : Nat} (hc : c ≤ 10) (M : Mem) (hM : M (e+1) 5 = nI c) : V m_X4_bagsNotGone 0 [(0, .ref (e+1))] [] M (RT (some (.int (sumN (M (e+3)) (M (e+6)) c 0 0))) M) := by
  refine V.iconst (v := 0) dX4_bagsNotGone_0 rfl rfl ?_
  refine V.ist_n dX4_bagsNotGone_1 rfl (by decide) (L' := [(0, .ref (e+1)), (1, .int 0)]) rfl rfl ?_
  refine V.iconst (v := 0) dX4_bagsNotGone_2 rfl rfl ?_
  refine V.ist_n dX4_bagsNotGone_3 rfl (by decide) (L' := [(0, .ref (e+1)), (1, .int 0), (2, .int 0)]) rfl rfl ?_
  exact l_X4_bagsNotGone he hc M hM c 0 0 (by omega)
def doneP (k r p : Int32) : Prop := (p = 1 ∨ p = 2) ∧ (¬ p = 4 ∧ readyF k ≤ r) ∧ ¬ burntF k ≤ r
def doneG (kd ro pl : Nat → Int32) : Nat → Nat → Int32 → Int32
  | 0, _, s => s
  | n + 1, i, s => doneG kd ro pl n (i + 1) (if (pl i = 1 ∨ pl i = 2) ∧ (¬ pl i = 4 ∧ readyF (kd i) ≤ ro i) ∧ ¬ burntF (kd i) ≤ ro i then s ||| (1 <<< (nI i &&& 31)) else s)
theorem l_X4_setDone {e : Nat} (he : isE e) {c : Nat} (hc : c ≤ 10) (M : Mem) (hM : M (e+1) 5 = nI c) : ∀ (n i : Nat) (s : Int32), i + n = c → V m_X4_setDoneOverFire 4 [(0, .ref (e+1)), (1, .int s), (2, .int (nI i))] [] M (RT (some (.int (doneG (M (e+2)) (M (e+4)) (M (e+6)) n i s))) M) := by
  intro n
  induction n with
  | zero =>
    intro i s hi
    refine V.iload_n dX4_setDoneOverFire_4 rfl rfl rfl ?_
    refine V.aload_n dX4_setDoneOverFire_5 rfl rfl rfl ?_
    refine V.geti (v := nI c) dX4_setDoneOverFire_6 fg_X4_27 (sh_nu he) rfl hM rfl ?_
    refine V.icmp_ge (tgt := 48) dX4_setDoneOverFire_9 rfl rfl (fun c9 => ?_) (fun c9 => absurd ((nI_leI (a := c) (b := i) (by omega) (by omega)).mpr (by omega)) c9)
    have c9 : c ≤ i := (nI_leI (a := c) (b := i) (by omega) (by omega)).mp c9
    refine V.iload_n dX4_setDoneOverFire_48 rfl rfl rfl ?_
    exact V.ret dX4_setDoneOverFire_49 rfl rfl ⟨rfl, rfl⟩
  | succ n ih =>
    intro i s hi
    refine V.iload_n dX4_setDoneOverFire_4 rfl rfl rfl ?_
    refine V.aload_n dX4_setDoneOverFire_5 rfl rfl rfl ?_
    refine V.geti (v := nI c) dX4_setDoneOverFire_6 fg_X4_27 (sh_nu he) rfl hM rfl ?_
    refine V.icmp_ge (tgt := 48) dX4_setDoneOverFire_9 rfl rfl (fun c9 => absurd ((nI_leI (a := c) (b := i) (by omega) (by omega)).mp c9) (by omega)) (fun c9 => ?_)
    have c9 : ¬ c ≤ i := fun q => c9 ((nI_leI (a := c) (b := i) (by omega) (by omega)).mpr q)
    refine V.aload_n dX4_setDoneOverFire_12 rfl rfl rfl ?_
    refine V.iload_n dX4_setDoneOverFire_13 rfl rfl rfl ?_
    refine V.callv_i (M1 := M) (v := if M (e+6) i = 1 ∨ M (e+6) i = 2 then 1 else 0) (md' := m_X4_isOverFire) (As := [.int (nI i)]) (rest := []) dX4_setDoneOverFire_14 ml_X4_74 mo_X4_isOverFire ⟨Nat.le_of_ble_eq_true rfl, Nat.le_of_ble_eq_true rfl⟩ (sh_nu he) ⟨_, _, rfl⟩ (Nat.le_of_ble_eq_true rfl) rfl rfl (Nat.le_of_ble_eq_true rfl) (v_X4_isOverFire he (b := i) (by omega) _) rfl ?_
    refine V.ifb_eq (tgt := 42) dX4_setDoneOverFire_17 rfl rfl (fun c17 => ?_) (fun c17 => ?_)
    · skip
      refine V.inc (v := nI (i + 1)) dX4_setDoneOverFire_42 rfl (nI_1 _) (by decide) (L' := [(0, .ref (e+1)), (1, .int s), (2, .int (nI (i + 1)))]) rfl rfl ?_
      refine V.goto (pc' := 4) dX4_setDoneOverFire_45 rfl ?_
      rw [show doneG (M (e+2)) (M (e+4)) (M (e+6)) (n + 1) i s = doneG (M (e+2)) (M (e+4)) (M (e+6)) n (i + 1) s from by simp only [doneG]; rw [if_neg (fun q => c17 q.1)]]
      exact ih (i + 1) _ (by omega)
    · skip
      refine V.aload_n dX4_setDoneOverFire_20 rfl rfl rfl ?_
      refine V.iload_n dX4_setDoneOverFire_21 rfl rfl rfl ?_
      refine V.callv_i (M1 := M) (v := if ¬ M (e+6) i = 4 ∧ readyF (M (e+2) i) ≤ M (e+4) i then 1 else 0) (md' := m_X4_isReady) (As := [.int (nI i)]) (rest := []) dX4_setDoneOverFire_22 ml_X4_78 mo_X4_isReady ⟨Nat.le_of_ble_eq_true rfl, Nat.le_of_ble_eq_true rfl⟩ (sh_nu he) ⟨_, _, rfl⟩ (Nat.le_of_ble_eq_true rfl) rfl rfl (Nat.le_of_ble_eq_true rfl) (v_X4_isReady he (b := i) (by omega) _) rfl ?_
      refine V.ifb_eq (tgt := 42) dX4_setDoneOverFire_25 rfl rfl (fun c25 => ?_) (fun c25 => ?_)
      · skip
        refine V.inc (v := nI (i + 1)) dX4_setDoneOverFire_42 rfl (nI_1 _) (by decide) (L' := [(0, .ref (e+1)), (1, .int s), (2, .int (nI (i + 1)))]) rfl rfl ?_
        refine V.goto (pc' := 4) dX4_setDoneOverFire_45 rfl ?_
        rw [show doneG (M (e+2)) (M (e+4)) (M (e+6)) (n + 1) i s = doneG (M (e+2)) (M (e+4)) (M (e+6)) n (i + 1) s from by simp only [doneG]; rw [if_neg (fun q => c25 q.2.1)]]
        exact ih (i + 1) _ (by omega)
      · skip
        refine V.aload_n dX4_setDoneOverFire_28 rfl rfl rfl ?_
        refine V.iload_n dX4_setDoneOverFire_29 rfl rfl rfl ?_
        refine V.callv_i (M1 := M) (v := if burntF (M (e+2) i) ≤ M (e+4) i then 1 else 0) (md' := m_X4_isBurnt) (As := [.int (nI i)]) (rest := []) dX4_setDoneOverFire_30 ml_X4_81 mo_X4_isBurnt ⟨Nat.le_of_ble_eq_true rfl, Nat.le_of_ble_eq_true rfl⟩ (sh_nu he) ⟨_, _, rfl⟩ (Nat.le_of_ble_eq_true rfl) rfl rfl (Nat.le_of_ble_eq_true rfl) (v_X4_isBurnt he (b := i) (by omega) _) rfl ?_
        refine V.ifb_ne (tgt := 42) dX4_setDoneOverFire_33 rfl rfl (fun c33 => ?_) (fun c33 => ?_)
        · skip
          refine V.inc (v := nI (i + 1)) dX4_setDoneOverFire_42 rfl (nI_1 _) (by decide) (L' := [(0, .ref (e+1)), (1, .int s), (2, .int (nI (i + 1)))]) rfl rfl ?_
          refine V.goto (pc' := 4) dX4_setDoneOverFire_45 rfl ?_
          rw [show doneG (M (e+2)) (M (e+4)) (M (e+6)) (n + 1) i s = doneG (M (e+2)) (M (e+4)) (M (e+6)) n (i + 1) s from by simp only [doneG]; rw [if_neg (fun q => q.2.2 c33)]]
          exact ih (i + 1) _ (by omega)
        · skip
          refine V.iload_n dX4_setDoneOverFire_36 rfl rfl rfl ?_
          refine V.iconst (v := 1) dX4_setDoneOverFire_37 rfl rfl ?_
          refine V.iload_n dX4_setDoneOverFire_38 rfl rfl rfl ?_
          refine V.ishl (v := 1 <<< ((nI i) &&& 31)) dX4_setDoneOverFire_39 rfl rfl ?_
          refine V.ior (v := s ||| (1 <<< ((nI i) &&& 31))) dX4_setDoneOverFire_40 rfl rfl ?_
          refine V.ist_n dX4_setDoneOverFire_41 rfl (by decide) (L' := [(0, .ref (e+1)), (1, .int (s ||| (1 <<< ((nI i) &&& 31)))), (2, .int (nI i))]) rfl rfl ?_
          refine V.inc (v := nI (i + 1)) dX4_setDoneOverFire_42 rfl (nI_1 _) (by decide) (L' := [(0, .ref (e+1)), (1, .int (s ||| (1 <<< ((nI i) &&& 31)))), (2, .int (nI (i + 1)))]) rfl rfl ?_
          refine V.goto (pc' := 4) dX4_setDoneOverFire_45 rfl ?_
          rw [show doneG (M (e+2)) (M (e+4)) (M (e+6)) (n + 1) i s = doneG (M (e+2)) (M (e+4)) (M (e+6)) n (i + 1) (s ||| (1 <<< ((nI i) &&& 31))) from by simp only [doneG]; rw [if_pos ⟨c17, c25, c33⟩]]
          exact ih (i + 1) _ (by omega)
theorem v_X4_setDone {e : Nat} (he : isE e) {c : Nat} (hc : c ≤ 10) (M : Mem) (hM : M (e+1) 5 = nI c) : V m_X4_setDoneOverFire 0 [(0, .ref (e+1))] [] M (RT (some (.int (doneG (M (e+2)) (M (e+4)) (M (e+6)) c 0 0))) M) := by
  refine V.iconst (v := 0) dX4_setDoneOverFire_0 rfl rfl ?_
  refine V.ist_n dX4_setDoneOverFire_1 rfl (by decide) (L' := [(0, .ref (e+1)), (1, .int 0)]) rfl rfl ?_
  refine V.iconst (v := 0) dX4_setDoneOverFire_2 rfl rfl ?_
  refine V.ist_n dX4_setDoneOverFire_3 rfl (by decide) (L' := [(0, .ref (e+1)), (1, .int 0), (2, .int 0)]) rfl rfl ?_
  exact l_X4_setDone he hc M hM c 0 0 (by omega)
