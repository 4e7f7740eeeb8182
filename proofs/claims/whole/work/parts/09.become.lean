/-! bitCount, hasRoom, become; Crowds -/
def bc1 (v : Int32) : Int32 := v - ((v.toUInt32 >>> (Int32.toUInt32 1 &&& Int32.toUInt32 31)).toInt32 &&& 1431655765)
def bc2 (v : Int32) : Int32 := (v &&& 858993459) + ((v.toUInt32 >>> (Int32.toUInt32 2 &&& Int32.toUInt32 31)).toInt32 &&& 858993459)
def bc3 (v : Int32) : Int32 := (v + (v.toUInt32 >>> (Int32.toUInt32 4 &&& Int32.toUInt32 31)).toInt32) &&& 252645135
def bc4 (v : Int32) : Int32 := v + (v.toUInt32 >>> (Int32.toUInt32 8 &&& Int32.toUInt32 31)).toInt32
def bc5 (v : Int32) : Int32 := v + (v.toUInt32 >>> (Int32.toUInt32 16 &&& Int32.toUInt32 31)).toInt32
def bcF (v : Int32) : Int32 := bc5 (bc4 (bc3 (bc2 (bc1 v)))) &&& 63
theorem v_bitCount (v : Int32) (M : Mem) : V m_J6_bitCount_0f7a4 0 [(0, .int v)] [] M (RT (some (.int (bcF v))) M) := by
  refine V.iload_n dJ6_bitCount_0f7a4_0 rfl rfl rfl ?_
  refine V.iload_n dJ6_bitCount_0f7a4_1 rfl rfl rfl ?_
  refine V.iconst (v := 1) dJ6_bitCount_0f7a4_2 rfl rfl ?_
  refine V.iushr (v := (Int32.toUInt32 v >>> (Int32.toUInt32 1 &&& Int32.toUInt32 31)).toInt32) dJ6_bitCount_0f7a4_3 rfl rfl ?_
  refine V.ldcw (v := 1431655765) dJ6_bitCount_0f7a4_4 cn_J6_265 rfl ?_
  refine V.iand (v := ((Int32.toUInt32 v >>> (Int32.toUInt32 1 &&& Int32.toUInt32 31)).toInt32) &&& 1431655765) dJ6_bitCount_0f7a4_7 rfl rfl ?_
  refine V.isub (v := v - (((Int32.toUInt32 v >>> (Int32.toUInt32 1 &&& Int32.toUInt32 31)).toInt32) &&& 1431655765)) dJ6_bitCount_0f7a4_8 rfl rfl ?_
  refine V.top (y := bc1 v) rfl ?_
  refine V.ist_n dJ6_bitCount_0f7a4_9 rfl (by decide) (L' := [(0, .int (bc1 v))]) rfl rfl ?_
  refine V.iload_n dJ6_bitCount_0f7a4_10 rfl rfl rfl ?_
  refine V.ldcw (v := 858993459) dJ6_bitCount_0f7a4_11 cn_J6_266 rfl ?_
  refine V.iand (v := (bc1 v) &&& 858993459) dJ6_bitCount_0f7a4_14 rfl rfl ?_
  refine V.iload_n dJ6_bitCount_0f7a4_15 rfl rfl rfl ?_
  refine V.iconst (v := 2) dJ6_bitCount_0f7a4_16 rfl rfl ?_
  refine V.iushr (v := (Int32.toUInt32 (bc1 v) >>> (Int32.toUInt32 2 &&& Int32.toUInt32 31)).toInt32) dJ6_bitCount_0f7a4_17 rfl rfl ?_
  refine V.ldcw (v := 858993459) dJ6_bitCount_0f7a4_18 cn_J6_266 rfl ?_
  refine V.iand (v := ((Int32.toUInt32 (bc1 v) >>> (Int32.toUInt32 2 &&& Int32.toUInt32 31)).toInt32) &&& 858993459) dJ6_bitCount_0f7a4_21 rfl rfl ?_
  refine V.iadd (v := ((bc1 v) &&& 858993459) + (((Int32.toUInt32 (bc1 v) >>> (Int32.toUInt32 2 &&& Int32.toUInt32 31)).toInt32) &&& 858993459)) dJ6_bitCount_0f7a4_22 rfl rfl ?_
  refine V.top (y := bc2 (bc1 v)) rfl ?_
  refine V.ist_n dJ6_bitCount_0f7a4_23 rfl (by decide) (L' := [(0, .int (bc2 (bc1 v)))]) rfl rfl ?_
  refine V.iload_n dJ6_bitCount_0f7a4_24 rfl rfl rfl ?_
  refine V.iload_n dJ6_bitCount_0f7a4_25 rfl rfl rfl ?_
  refine V.iconst (v := 4) dJ6_bitCount_0f7a4_26 rfl rfl ?_
  refine V.iushr (v := (Int32.toUInt32 (bc2 (bc1 v)) >>> (Int32.toUInt32 4 &&& Int32.toUInt32 31)).toInt32) dJ6_bitCount_0f7a4_27 rfl rfl ?_
  refine V.iadd (v := (bc2 (bc1 v)) + ((Int32.toUInt32 (bc2 (bc1 v)) >>> (Int32.toUInt32 4 &&& Int32.toUInt32 31)).toInt32)) dJ6_bitCount_0f7a4_28 rfl rfl ?_
  refine V.ldcw (v := 252645135) dJ6_bitCount_0f7a4_29 cn_J6_267 rfl ?_
  refine V.iand (v := ((bc2 (bc1 v)) + ((Int32.toUInt32 (bc2 (bc1 v)) >>> (Int32.toUInt32 4 &&& Int32.toUInt32 31)).toInt32)) &&& 252645135) dJ6_bitCount_0f7a4_32 rfl rfl ?_
  refine V.top (y := bc3 (bc2 (bc1 v))) rfl ?_
  refine V.ist_n dJ6_bitCount_0f7a4_33 rfl (by decide) (L' := [(0, .int (bc3 (bc2 (bc1 v))))]) rfl rfl ?_
  refine V.iload_n dJ6_bitCount_0f7a4_34 rfl rfl rfl ?_
  refine V.iload_n dJ6_bitCount_0f7a4_35 rfl rfl rfl ?_
  refine V.bipush (v := 8) dJ6_bitCount_0f7a4_36 (by decide) rfl ?_
  refine V.iushr (v := (Int32.toUInt32 (bc3 (bc2 (bc1 v))) >>> (Int32.toUInt32 8 &&& Int32.toUInt32 31)).toInt32) dJ6_bitCount_0f7a4_38 rfl rfl ?_
  refine V.iadd (v := (bc3 (bc2 (bc1 v))) + ((Int32.toUInt32 (bc3 (bc2 (bc1 v))) >>> (Int32.toUInt32 8 &&& Int32.toUInt32 31)).toInt32)) dJ6_bitCount_0f7a4_39 rfl rfl ?_
  refine V.top (y := bc4 (bc3 (bc2 (bc1 v)))) rfl ?_
  refine V.ist_n dJ6_bitCount_0f7a4_40 rfl (by decide) (L' := [(0, .int (bc4 (bc3 (bc2 (bc1 v)))))]) rfl rfl ?_
  refine V.iload_n dJ6_bitCount_0f7a4_41 rfl rfl rfl ?_
  refine V.iload_n dJ6_bitCount_0f7a4_42 rfl rfl rfl ?_
  refine V.bipush (v := 16) dJ6_bitCount_0f7a4_43 (by decide) rfl ?_
  refine V.iushr (v := (Int32.toUInt32 (bc4 (bc3 (bc2 (bc1 v)))) >>> (Int32.toUInt32 16 &&& Int32.toUInt32 31)).toInt32) dJ6_bitCount_0f7a4_45 rfl rfl ?_
  refine V.iadd (v := (bc4 (bc3 (bc2 (bc1 v)))) + ((Int32.toUInt32 (bc4 (bc3 (bc2 (bc1 v)))) >>> (Int32.toUInt32 16 &&& Int32.toUInt32 31)).toInt32)) dJ6_bitCount_0f7a4_46 rfl rfl ?_
  refine V.top (y := bc5 (bc4 (bc3 (bc2 (bc1 v))))) rfl ?_
  refine V.ist_n dJ6_bitCount_0f7a4_47 rfl (by decide) (L' := [(0, .int (bc5 (bc4 (bc3 (bc2 (bc1 v))))))]) rfl rfl ?_
  refine V.iload_n dJ6_bitCount_0f7a4_48 rfl rfl rfl ?_
  refine V.bipush (v := 63) dJ6_bitCount_0f7a4_49 (by decide) rfl ?_
  refine V.iand (v := (bc5 (bc4 (bc3 (bc2 (bc1 v))))) &&& 63) dJ6_bitCount_0f7a4_51 rfl rfl ?_
  exact V.ret dJ6_bitCount_0f7a4_52 rfl rfl ⟨rfl, rfl⟩
def roomP (e c : Nat) (p : Int32) (M : Mem) : Prop := (¬ p = 1 ∧ ¬ p = 2) ∨ bcF (setG (M (e+6)) p c 0 0) < (if p = 1 then 2 else 4)
theorem v_X4_hasRoom {e : Nat} (he : isE e) {c : Nat} (hc : c ≤ 10) (p : Int32) (M : Mem) (hM : M (e+1) 5 = nI c) : V m_X4_hasRoom 0 [(0, .ref (e+1)), (1, .int p)] [] M (RT (some (.int (if (¬ p = 1 ∧ ¬ p = 2) ∨ bcF (setG (M (e+6)) p c 0 0) < (if p = 1 then 2 else 4) then 1 else 0))) M) := by
  refine V.iload_n dX4_hasRoom_0 rfl rfl rfl ?_
  refine V.iconst (v := 1) dX4_hasRoom_1 rfl rfl ?_
  refine V.icmp_eq (tgt := 12) dX4_hasRoom_2 rfl rfl (fun c2 => ?_) (fun c2 => ?_)
  · skip
    refine V.aload_n dX4_hasRoom_12 rfl rfl rfl ?_
    refine V.iload_n dX4_hasRoom_13 rfl rfl rfl ?_
    refine V.callv_i (M1 := M) (v := setG (M (e+6)) p c 0 0) (md' := m_X4_setAt) (As := [.int p]) (rest := []) dX4_hasRoom_14 ml_X4_46 mo_X4_setAt ⟨Nat.le_of_ble_eq_true rfl, Nat.le_of_ble_eq_true rfl⟩ (sh_nu he) ⟨_, _, rfl⟩ (Nat.le_of_ble_eq_true rfl) rfl rfl (Nat.le_of_ble_eq_true rfl) (v_X4_setAt he hc p M hM) rfl ?_
    refine V.calls_i (M1 := M) (v := bcF (setG (M (e+6)) p c 0 0)) (md' := m_J6_bitCount_0f7a4) (As := [.int (setG (M (e+6)) p c 0 0)]) (rest := []) dX4_hasRoom_17 ml_X4_49 mo_J6_bitCount_0f7a4 ⟨Nat.le_of_ble_eq_true rfl, Nat.le_of_ble_eq_true rfl⟩ (Nat.le_of_ble_eq_true rfl) rfl rfl (Nat.le_of_ble_eq_true rfl) (v_bitCount _ _) rfl ?_
    refine V.ist_n dX4_hasRoom_20 rfl (by decide) (L' := [(0, .ref (e+1)), (1, .int p), (2, .int (bcF (setG (M (e+6)) p c 0 0)))]) rfl rfl ?_
    refine V.iload_n dX4_hasRoom_21 rfl rfl rfl ?_
    refine V.iload_n dX4_hasRoom_22 rfl rfl rfl ?_
    refine V.iconst (v := 1) dX4_hasRoom_23 rfl rfl ?_
    refine V.icmp_ne (tgt := 31) dX4_hasRoom_24 rfl rfl (fun c24 => ?_) (fun c24 => ?_)
    · skip
      refine V.iconst (v := 4) dX4_hasRoom_31 rfl rfl ?_
      refine V.icmp_ge (tgt := 39) dX4_hasRoom_32 rfl rfl (fun c32 => ?_) (fun c32 => ?_)
      · have d32 := Int32.not_lt.mpr c32
        refine V.iconst (v := 0) dX4_hasRoom_39 rfl rfl ?_
        exact V.ret dX4_hasRoom_40 rfl rfl ⟨(by simp_all), rfl⟩
      · have d32 := Int32.not_le.mp c32
        refine V.iconst (v := 1) dX4_hasRoom_35 rfl rfl ?_
        refine V.goto (pc' := 40) dX4_hasRoom_36 rfl ?_
        exact V.ret dX4_hasRoom_40 rfl rfl ⟨(by simp_all), rfl⟩
    · skip
      refine V.iconst (v := 2) dX4_hasRoom_27 rfl rfl ?_
      refine V.goto (pc' := 32) dX4_hasRoom_28 rfl ?_
      refine V.icmp_ge (tgt := 39) dX4_hasRoom_32 rfl rfl (fun c32 => ?_) (fun c32 => ?_)
      · have d32 := Int32.not_lt.mpr c32
        refine V.iconst (v := 0) dX4_hasRoom_39 rfl rfl ?_
        exact V.ret dX4_hasRoom_40 rfl rfl ⟨(by simp_all), rfl⟩
      · have d32 := Int32.not_le.mp c32
        refine V.iconst (v := 1) dX4_hasRoom_35 rfl rfl ?_
        refine V.goto (pc' := 40) dX4_hasRoom_36 rfl ?_
        exact V.ret dX4_hasRoom_40 rfl rfl ⟨(by simp_all), rfl⟩
  · skip
    refine V.iload_n dX4_hasRoom_5 rfl rfl rfl ?_
    refine V.iconst (v := 2) dX4_hasRoom_6 rfl rfl ?_
    refine V.icmp_eq (tgt := 12) dX4_hasRoom_7 rfl rfl (fun c7 => ?_) (fun c7 => ?_)
    · skip
      refine V.aload_n dX4_hasRoom_12 rfl rfl rfl ?_
      refine V.iload_n dX4_hasRoom_13 rfl rfl rfl ?_
      refine V.callv_i (M1 := M) (v := setG (M (e+6)) p c 0 0) (md' := m_X4_setAt) (As := [.int p]) (rest := []) dX4_hasRoom_14 ml_X4_46 mo_X4_setAt ⟨Nat.le_of_ble_eq_true rfl, Nat.le_of_ble_eq_true rfl⟩ (sh_nu he) ⟨_, _, rfl⟩ (Nat.le_of_ble_eq_true rfl) rfl rfl (Nat.le_of_ble_eq_true rfl) (v_X4_setAt he hc p M hM) rfl ?_
      refine V.calls_i (M1 := M) (v := bcF (setG (M (e+6)) p c 0 0)) (md' := m_J6_bitCount_0f7a4) (As := [.int (setG (M (e+6)) p c 0 0)]) (rest := []) dX4_hasRoom_17 ml_X4_49 mo_J6_bitCount_0f7a4 ⟨Nat.le_of_ble_eq_true rfl, Nat.le_of_ble_eq_true rfl⟩ (Nat.le_of_ble_eq_true rfl) rfl rfl (Nat.le_of_ble_eq_true rfl) (v_bitCount _ _) rfl ?_
      refine V.ist_n dX4_hasRoom_20 rfl (by decide) (L' := [(0, .ref (e+1)), (1, .int p), (2, .int (bcF (setG (M (e+6)) p c 0 0)))]) rfl rfl ?_
      refine V.iload_n dX4_hasRoom_21 rfl rfl rfl ?_
      refine V.iload_n dX4_hasRoom_22 rfl rfl rfl ?_
      refine V.iconst (v := 1) dX4_hasRoom_23 rfl rfl ?_
      refine V.icmp_ne (tgt := 31) dX4_hasRoom_24 rfl rfl (fun c24 => ?_) (fun c24 => ?_)
      · skip
        refine V.iconst (v := 4) dX4_hasRoom_31 rfl rfl ?_
        refine V.icmp_ge (tgt := 39) dX4_hasRoom_32 rfl rfl (fun c32 => ?_) (fun c32 => ?_)
        · have d32 := Int32.not_lt.mpr c32
          refine V.iconst (v := 0) dX4_hasRoom_39 rfl rfl ?_
          exact V.ret dX4_hasRoom_40 rfl rfl ⟨(by simp_all), rfl⟩
        · have d32 := Int32.not_le.mp c32
          refine V.iconst (v := 1) dX4_hasRoom_35 rfl rfl ?_
          refine V.goto (pc' := 40) dX4_hasRoom_36 rfl ?_
          exact V.ret dX4_hasRoom_40 rfl rfl ⟨(by simp_all), rfl⟩
      · skip
        refine V.iconst (v := 2) dX4_hasRoom_27 rfl rfl ?_
        refine V.goto (pc' := 32) dX4_hasRoom_28 rfl ?_
        refine V.icmp_ge (tgt := 39) dX4_hasRoom_32 rfl rfl (fun c32 => ?_) (fun c32 => ?_)
        · have d32 := Int32.not_lt.mpr c32
          refine V.iconst (v := 0) dX4_hasRoom_39 rfl rfl ?_
          exact V.ret dX4_hasRoom_40 rfl rfl ⟨(by simp_all), rfl⟩
        · have d32 := Int32.not_le.mp c32
          refine V.iconst (v := 1) dX4_hasRoom_35 rfl rfl ?_
          refine V.goto (pc' := 40) dX4_hasRoom_36 rfl ?_
          exact V.ret dX4_hasRoom_40 rfl rfl ⟨(by simp_all), rfl⟩
    · skip
      refine V.iconst (v := 1) dX4_hasRoom_10 rfl rfl ?_
      exact V.ret dX4_hasRoom_11 rfl rfl ⟨(by simp_all), rfl⟩
theorem cl0 : (0 : Int32).toNatClampNeg = 0 := rfl
theorem cl7 : (7 : Int32).toNatClampNeg = 7 := rfl
theorem cl10 : (10 : Int32).toNatClampNeg = 10 := rfl
theorem cl12 : (12 : Int32).toNatClampNeg = 12 := rfl
def nBecM (e f : Nat) (M : Mem) : Mem := mr (mr (mr (mr (mr (ms M (e+1) 5 (M (f+1) 5)) (e+2) (va_cpy (M (f+2)) (M (e+2)) 0 0 10)) (e+3) (va_cpy (M (f+3)) (M (e+3)) 0 0 10)) (e+4) (va_cpy (M (f+4)) (M (e+4)) 0 0 10)) (e+5) (va_cpy (M (f+5)) (M (e+5)) 0 0 10)) (e+6) (va_cpy (M (f+6)) (M (e+6)) 0 0 10)
def cBecM (e f : Nat) (M : Mem) : Mem := mr (mr (mr (ms M (e+7) 3 (M (f+7) 3)) (e+8) (va_cpy (M (f+8)) (M (e+8)) 0 0 12)) (e+9) (va_cpy (M (f+9)) (M (e+9)) 0 0 12)) (e+10) (va_cpy (M (f+10)) (M (e+10)) 0 0 12)
theorem v_X4_become {e f : Nat} (he : isE e) (hf : isE f) (hef : e + 13 ≤ f ∨ f + 13 ≤ e) (M : Mem) : V m_X4_become 0 [(0, .ref (e+1)), (1, .ref (f+1))] [] M (RT none (nBecM e f M)) := by
  refine V.aload_n dX4_become_0 rfl rfl rfl ?_
  refine V.aload_n dX4_become_1 rfl rfl rfl ?_
  refine V.geti (v := M (f+1) 5) dX4_become_2 fg_X4_27 (sh_nu hf) rfl rfl rfl ?_
  refine V.puti dX4_become_5 fp_X4_27 (sh_nu he) rfl rfl rfl (M' := (ms M (e+1) 5 (M (f+1) 5))) rfl rfl ?_
  refine V.aload_n dX4_become_8 rfl rfl rfl ?_
  refine V.getr dX4_become_9 fg_X4_9 (sh_nu hf) rfl rfl ?_
  refine V.iconst (v := 0) dX4_become_12 rfl rfl ?_
  refine V.aload_n dX4_become_13 rfl rfl rfl ?_
  refine V.getr dX4_become_14 fg_X4_9 (sh_nu he) rfl rfl ?_
  refine V.iconst (v := 0) dX4_become_17 rfl rfl ?_
  refine V.bipush (v := 10) dX4_become_18 (by decide) rfl ?_
  refine V.copy (M' := mr (ms M (e+1) 5 (M (f+1) 5)) (e+2) (va_cpy (M (f+2)) (M (e+2)) 0 0 10)) dX4_become_20 ac_X4_31 (sh_a2 hf) (by decide) (sh_a2 he) (by decide) (by decide) (by decide) (by decide) (by decide) (by decide) ⟨Nat.le_of_ble_eq_true rfl, Nat.le_of_ble_eq_true rfl⟩ (by simp (disch := omega) only [mr_k, ms_k, cl0, cl10]) rfl ?_
  refine V.aload_n dX4_become_23 rfl rfl rfl ?_
  refine V.getr dX4_become_24 fg_X4_15 (sh_nu hf) rfl rfl ?_
  refine V.iconst (v := 0) dX4_become_27 rfl rfl ?_
  refine V.aload_n dX4_become_28 rfl rfl rfl ?_
  refine V.getr dX4_become_29 fg_X4_15 (sh_nu he) rfl rfl ?_
  refine V.iconst (v := 0) dX4_become_32 rfl rfl ?_
  refine V.bipush (v := 10) dX4_become_33 (by decide) rfl ?_
  refine V.copy (M' := mr (mr (ms M (e+1) 5 (M (f+1) 5)) (e+2) (va_cpy (M (f+2)) (M (e+2)) 0 0 10)) (e+3) (va_cpy (M (f+3)) (M (e+3)) 0 0 10)) dX4_become_35 ac_X4_31 (sh_a3 hf) (by decide) (sh_a3 he) (by decide) (by decide) (by decide) (by decide) (by decide) (by decide) ⟨Nat.le_of_ble_eq_true rfl, Nat.le_of_ble_eq_true rfl⟩ (by simp (disch := omega) only [mr_k, ms_k, cl0, cl10]) rfl ?_
  refine V.aload_n dX4_become_38 rfl rfl rfl ?_
  refine V.getr dX4_become_39 fg_X4_18 (sh_nu hf) rfl rfl ?_
  refine V.iconst (v := 0) dX4_become_42 rfl rfl ?_
  refine V.aload_n dX4_become_43 rfl rfl rfl ?_
  refine V.getr dX4_become_44 fg_X4_18 (sh_nu he) rfl rfl ?_
  refine V.iconst (v := 0) dX4_become_47 rfl rfl ?_
  refine V.bipush (v := 10) dX4_become_48 (by decide) rfl ?_
  refine V.copy (M' := mr (mr (mr (ms M (e+1) 5 (M (f+1) 5)) (e+2) (va_cpy (M (f+2)) (M (e+2)) 0 0 10)) (e+3) (va_cpy (M (f+3)) (M (e+3)) 0 0 10)) (e+4) (va_cpy (M (f+4)) (M (e+4)) 0 0 10)) dX4_become_50 ac_X4_31 (sh_a4 hf) (by decide) (sh_a4 he) (by decide) (by decide) (by decide) (by decide) (by decide) (by decide) ⟨Nat.le_of_ble_eq_true rfl, Nat.le_of_ble_eq_true rfl⟩ (by simp (disch := omega) only [mr_k, ms_k, cl0, cl10]) rfl ?_
  refine V.aload_n dX4_become_53 rfl rfl rfl ?_
  refine V.getr dX4_become_54 fg_X4_21 (sh_nu hf) rfl rfl ?_
  refine V.iconst (v := 0) dX4_become_57 rfl rfl ?_
  refine V.aload_n dX4_become_58 rfl rfl rfl ?_
  refine V.getr dX4_become_59 fg_X4_21 (sh_nu he) rfl rfl ?_
  refine V.iconst (v := 0) dX4_become_62 rfl rfl ?_
  refine V.bipush (v := 10) dX4_become_63 (by decide) rfl ?_
  refine V.copy (M' := mr (mr (mr (mr (ms M (e+1) 5 (M (f+1) 5)) (e+2) (va_cpy (M (f+2)) (M (e+2)) 0 0 10)) (e+3) (va_cpy (M (f+3)) (M (e+3)) 0 0 10)) (e+4) (va_cpy (M (f+4)) (M (e+4)) 0 0 10)) (e+5) (va_cpy (M (f+5)) (M (e+5)) 0 0 10)) dX4_become_65 ac_X4_31 (sh_a5 hf) (by decide) (sh_a5 he) (by decide) (by decide) (by decide) (by decide) (by decide) (by decide) ⟨Nat.le_of_ble_eq_true rfl, Nat.le_of_ble_eq_true rfl⟩ (by simp (disch := omega) only [mr_k, ms_k, cl0, cl10]) rfl ?_
  refine V.aload_n dX4_become_68 rfl rfl rfl ?_
  refine V.getr dX4_become_69 fg_X4_24 (sh_nu hf) rfl rfl ?_
  refine V.iconst (v := 0) dX4_become_72 rfl rfl ?_
  refine V.aload_n dX4_become_73 rfl rfl rfl ?_
  refine V.getr dX4_become_74 fg_X4_24 (sh_nu he) rfl rfl ?_
  refine V.iconst (v := 0) dX4_become_77 rfl rfl ?_
  refine V.bipush (v := 10) dX4_become_78 (by decide) rfl ?_
  refine V.copy (M' := mr (mr (mr (mr (mr (ms M (e+1) 5 (M (f+1) 5)) (e+2) (va_cpy (M (f+2)) (M (e+2)) 0 0 10)) (e+3) (va_cpy (M (f+3)) (M (e+3)) 0 0 10)) (e+4) (va_cpy (M (f+4)) (M (e+4)) 0 0 10)) (e+5) (va_cpy (M (f+5)) (M (e+5)) 0 0 10)) (e+6) (va_cpy (M (f+6)) (M (e+6)) 0 0 10)) dX4_become_80 ac_X4_31 (sh_a6 hf) (by decide) (sh_a6 he) (by decide) (by decide) (by decide) (by decide) (by decide) (by decide) ⟨Nat.le_of_ble_eq_true rfl, Nat.le_of_ble_eq_true rfl⟩ (by simp (disch := omega) only [mr_k, ms_k, cl0, cl10]) rfl ?_
  exact V.vret dX4_become_83 rfl ⟨rfl, rfl⟩
theorem v_X1_become {e f : Nat} (he : isE e) (hf : isE f) (hef : e + 13 ≤ f ∨ f + 13 ≤ e) (M : Mem) : V m_X1_become 0 [(0, .ref (e+7)), (1, .ref (f+7))] [] M (RT none (cBecM e f M)) := by
  refine V.aload_n dX1_become_0 rfl rfl rfl ?_
  refine V.aload_n dX1_become_1 rfl rfl rfl ?_
  refine V.geti (v := M (f+7) 3) dX1_become_2 fg_X1_21 (sh_cr hf) rfl rfl rfl ?_
  refine V.puti dX1_become_5 fp_X1_21 (sh_cr he) rfl rfl rfl (M' := (ms M (e+7) 3 (M (f+7) 3))) rfl rfl ?_
  refine V.aload_n dX1_become_8 rfl rfl rfl ?_
  refine V.getr dX1_become_9 fg_X1_9 (sh_cr hf) rfl rfl ?_
  refine V.iconst (v := 0) dX1_become_12 rfl rfl ?_
  refine V.aload_n dX1_become_13 rfl rfl rfl ?_
  refine V.getr dX1_become_14 fg_X1_9 (sh_cr he) rfl rfl ?_
  refine V.iconst (v := 0) dX1_become_17 rfl rfl ?_
  refine V.bipush (v := 12) dX1_become_18 (by decide) rfl ?_
  refine V.copy (M' := mr (ms M (e+7) 3 (M (f+7) 3)) (e+8) (va_cpy (M (f+8)) (M (e+8)) 0 0 12)) dX1_become_20 ac_X1_25 (sh_a8 hf) (by decide) (sh_a8 he) (by decide) (by decide) (by decide) (by decide) (by decide) (by decide) ⟨Nat.le_of_ble_eq_true rfl, Nat.le_of_ble_eq_true rfl⟩ (by simp (disch := omega) only [mr_k, ms_k, cl0, cl12]) rfl ?_
  refine V.aload_n dX1_become_23 rfl rfl rfl ?_
  refine V.getr dX1_become_24 fg_X1_15 (sh_cr hf) rfl rfl ?_
  refine V.iconst (v := 0) dX1_become_27 rfl rfl ?_
  refine V.aload_n dX1_become_28 rfl rfl rfl ?_
  refine V.getr dX1_become_29 fg_X1_15 (sh_cr he) rfl rfl ?_
  refine V.iconst (v := 0) dX1_become_32 rfl rfl ?_
  refine V.bipush (v := 12) dX1_become_33 (by decide) rfl ?_
  refine V.copy (M' := mr (mr (ms M (e+7) 3 (M (f+7) 3)) (e+8) (va_cpy (M (f+8)) (M (e+8)) 0 0 12)) (e+9) (va_cpy (M (f+9)) (M (e+9)) 0 0 12)) dX1_become_35 ac_X1_25 (sh_a9 hf) (by decide) (sh_a9 he) (by decide) (by decide) (by decide) (by decide) (by decide) (by decide) ⟨Nat.le_of_ble_eq_true rfl, Nat.le_of_ble_eq_true rfl⟩ (by simp (disch := omega) only [mr_k, ms_k, cl0, cl12]) rfl ?_
  refine V.aload_n dX1_become_38 rfl rfl rfl ?_
  refine V.getr dX1_become_39 fg_X1_18 (sh_cr hf) rfl rfl ?_
  refine V.iconst (v := 0) dX1_become_42 rfl rfl ?_
  refine V.aload_n dX1_become_43 rfl rfl rfl ?_
  refine V.getr dX1_become_44 fg_X1_18 (sh_cr he) rfl rfl ?_
  refine V.iconst (v := 0) dX1_become_47 rfl rfl ?_
  refine V.bipush (v := 12) dX1_become_48 (by decide) rfl ?_
  refine V.copy (M' := mr (mr (mr (ms M (e+7) 3 (M (f+7) 3)) (e+8) (va_cpy (M (f+8)) (M (e+8)) 0 0 12)) (e+9) (va_cpy (M (f+9)) (M (e+9)) 0 0 12)) (e+10) (va_cpy (M (f+10)) (M (e+10)) 0 0 12)) dX1_become_50 ac_X1_25 (sh_a10 hf) (by decide) (sh_a10 he) (by decide) (by decide) (by decide) (by decide) (by decide) (by decide) ⟨Nat.le_of_ble_eq_true rfl, Nat.le_of_ble_eq_true rfl⟩ (by simp (disch := omega) only [mr_k, ms_k, cl0, cl12]) rfl ?_
  exact V.vret dX1_become_53 rfl ⟨rfl, rfl⟩
theorem v_X1_isFull {e : Nat} (he : isE e) {c : Nat} (hc : c ≤ 12) (M : Mem) (hM : M (e+7) 3 = nI c) : V m_X1_isFull 0 [(0, .ref (e+7))] [] M (RT (some (.int (if 12 ≤ c then 1 else 0))) M) := by
  refine V.aload_n dX1_isFull_0 rfl rfl rfl ?_
  refine V.geti (v := nI c) dX1_isFull_1 fg_X1_21 (sh_cr he) rfl hM rfl ?_
  refine V.bipush (v := 12) dX1_isFull_4 (by decide) rfl ?_
  refine V.icmp_lt (tgt := 13) dX1_isFull_6 rfl rfl (fun c6 => ?_) (fun c6 => ?_)
  · have d6 : ¬ 12 ≤ c := by have := (nI_ltI (a := c) (b := 12) (by omega) (by decide)).mp c6; omega
    refine V.iconst (v := 0) dX1_isFull_13 rfl rfl ?_
    exact V.ret dX1_isFull_14 rfl rfl ⟨(by simp [*]), rfl⟩
  · have d6 : 12 ≤ c := by have := mt (nI_ltI (a := c) (b := 12) (by omega) (by decide)).mpr c6; omega
    refine V.iconst (v := 1) dX1_isFull_9 rfl rfl ?_
    refine V.goto (pc' := 14) dX1_isFull_10 rfl ?_
    exact V.ret dX1_isFull_14 rfl rfl ⟨(by simp [*]), rfl⟩
def cAddM (e c : Nat) (co mi ma : Int32) (M : Mem) : Mem := ms (ms (ms (ms M (e+8) c co) (e+9) c mi) (e+10) c ma) (e+7) 3 (nI (c+1))
theorem v_X1_add {e : Nat} (he : isE e) {c : Nat} (hc : c < 12) (co mi ma : Int32) (M : Mem) (hM : M (e+7) 3 = nI c) : V m_X1_add 0 [(0, .ref (e+7)), (1, .int co), (2, .int mi), (3, .int ma)] [] M (RT (some (.int (nI c))) (cAddM e c co mi ma M)) := by
  refine V.aload_n dX1_add_0 rfl rfl rfl ?_
  refine V.geti (v := nI c) dX1_add_1 fg_X1_21 (sh_cr he) rfl hM rfl ?_
  refine V.ist dX1_add_4 (by decide) (L' := [(0, .ref (e+7)), (1, .int co), (2, .int mi), (3, .int ma), (4, .int (nI c))]) rfl rfl ?_
  refine V.aload_n dX1_add_6 rfl rfl rfl ?_
  refine V.getr dX1_add_7 fg_X1_9 (sh_cr he) rfl rfl ?_
  refine V.iload dX1_add_10 rfl rfl ?_
  refine V.iload_n dX1_add_12 rfl rfl rfl ?_
  refine V.iastN (j := c) dX1_add_13 (sh_a8 he) (by omega) (by decide) rfl (M' := (ms M (e+8) c co)) rfl rfl ?_
  refine V.aload_n dX1_add_14 rfl rfl rfl ?_
  refine V.getr dX1_add_15 fg_X1_15 (sh_cr he) rfl rfl ?_
  refine V.iload dX1_add_18 rfl rfl ?_
  refine V.iload_n dX1_add_20 rfl rfl rfl ?_
  refine V.iastN (j := c) dX1_add_21 (sh_a9 he) (by omega) (by decide) rfl (M' := (ms (ms M (e+8) c co) (e+9) c mi)) rfl rfl ?_
  refine V.aload_n dX1_add_22 rfl rfl rfl ?_
  refine V.getr dX1_add_23 fg_X1_18 (sh_cr he) rfl rfl ?_
  refine V.iload dX1_add_26 rfl rfl ?_
  refine V.iload_n dX1_add_28 rfl rfl rfl ?_
  refine V.iastN (j := c) dX1_add_29 (sh_a10 he) (by omega) (by decide) rfl (M' := (ms (ms (ms M (e+8) c co) (e+9) c mi) (e+10) c ma)) rfl rfl ?_
  refine V.aload_n dX1_add_30 rfl rfl rfl ?_
  refine V.dup dX1_add_31 rfl rfl ?_
  refine V.geti (v := nI c) dX1_add_32 fg_X1_21 (sh_cr he) rfl (by simp [ms, hM]) rfl ?_
  refine V.iconst (v := 1) dX1_add_35 rfl rfl ?_
  refine V.iadd (v := nI (c + 1)) dX1_add_36 (nI_add _ _) rfl ?_
  refine V.puti dX1_add_37 fp_X1_21 (sh_cr he) rfl rfl rfl (M' := (ms (ms (ms (ms M (e+8) c co) (e+9) c mi) (e+10) c ma) (e+7) 3 (nI (c + 1)))) rfl rfl ?_
  refine V.iload dX1_add_40 rfl rfl ?_
  exact V.ret dX1_add_42 rfl rfl ⟨rfl, rfl⟩
theorem l_X1_manyOfAll {e : Nat} (he : isE e) {c : Nat} (hc : c ≤ 12) (M : Mem) (hM : M (e+7) 3 = nI c) : ∀ (n i : Nat) (s : Int32), i + n = c → V m_X1_manyOfAll 4 [(0, .ref (e+7)), (1, .int s), (2, .int (nI i))] [] M (RT (some (.int (sumG (M (e+10)) n i s))) M) := by
  intro n
  induction n with
  | zero =>
    intro i s hi
    refine V.iload_n dX1_manyOfAll_4 rfl rfl rfl ?_
    refine V.aload_n dX1_manyOfAll_5 rfl rfl rfl ?_
    refine V.geti (v := nI c) dX1_manyOfAll_6 fg_X1_21 (sh_cr he) rfl hM rfl ?_
    refine V.icmp_ge (tgt := 27) dX1_manyOfAll_9 rfl rfl (fun c9 => ?_) (fun c9 => absurd ((nI_leI (a := c) (b := i) (by omega) (by omega)).mpr (by omega)) c9)
    have c9 : c ≤ i := (nI_leI (a := c) (b := i) (by omega) (by omega)).mp c9
    refine V.iload_n dX1_manyOfAll_27 rfl rfl rfl ?_
    exact V.ret dX1_manyOfAll_28 rfl rfl ⟨rfl, rfl⟩
  | succ n ih =>
    intro i s hi
    refine V.iload_n dX1_manyOfAll_4 rfl rfl rfl ?_
    refine V.aload_n dX1_manyOfAll_5 rfl rfl rfl ?_
    refine V.geti (v := nI c) dX1_manyOfAll_6 fg_X1_21 (sh_cr he) rfl hM rfl ?_
    refine V.icmp_ge (tgt := 27) dX1_manyOfAll_9 rfl rfl (fun c9 => absurd ((nI_leI (a := c) (b := i) (by omega) (by omega)).mp c9) (by omega)) (fun c9 => ?_)
    have c9 : ¬ c ≤ i := fun q => c9 ((nI_leI (a := c) (b := i) (by omega) (by omega)).mpr q)
    refine V.iload_n dX1_manyOfAll_12 rfl rfl rfl ?_
    refine V.aload_n dX1_manyOfAll_13 rfl rfl rfl ?_
    refine V.getr dX1_manyOfAll_14 fg_X1_18 (sh_cr he) rfl rfl ?_
    refine V.iload_n dX1_manyOfAll_17 rfl rfl rfl ?_
    refine V.ialdN (j := i) (v := M (e+10) i) dX1_manyOfAll_18 (sh_a10 he) (by omega) (by decide) rfl rfl rfl ?_
    refine V.iadd (v := s + (M (e+10) i)) dX1_manyOfAll_19 rfl rfl ?_
    refine V.ist_n dX1_manyOfAll_20 rfl (by decide) (L' := [(0, .ref (e+7)), (1, .int (s + (M (e+10) i))), (2, .int (nI i))]) rfl rfl ?_
    refine V.inc (v := nI (i + 1)) dX1_manyOfAll_21 rfl (nI_1 _) (by decide) (L' := [(0, .ref (e+7)), (1, .int (s + (M (e+10) i))), (2, .int (nI (i + 1)))]) rfl rfl ?_
    refine V.goto (pc' := 4) dX1_manyOfAll_24 rfl ?_
    exact ih (i + 1) _ (by omega)
theorem v_X1_manyOfAll {e : Nat} (he : isE e) {c : Nat} (hc : c ≤ 12) (M : Mem) (hM : M (e+7) 3 = nI c) : V m_X1_manyOfAll 0 [(0, .ref (e+7))] [] M (RT (some (.int (sumG (M (e+10)) c 0 0))) M) := by
  refine V.iconst (v := 0) dX1_manyOfAll_0 rfl rfl ?_
  refine V.ist_n dX1_manyOfAll_1 rfl (by decide) (L' := [(0, .ref (e+7)), (1, .int 0)]) rfl rfl ?_
  refine V.iconst (v := 0) dX1_manyOfAll_2 rfl rfl ?_
  refine V.ist_n dX1_manyOfAll_3 rfl (by decide) (L' := [(0, .ref (e+7)), (1, .int 0), (2, .int 0)]) rfl rfl ?_
  exact l_X1_manyOfAll he hc M hM c 0 0 (by omega)
theorem nBecM_k {e f a : Nat} {M : Mem} (h : a < e + 1 ∨ e + 6 < a) : nBecM e f M a = M a := by simp (disch := omega) only [nBecM, mr_k, ms_k]
theorem cBecM_k {e f a : Nat} {M : Mem} (h : a < e + 7 ∨ e + 10 < a) : cBecM e f M a = M a := by simp (disch := omega) only [cBecM, mr_k, ms_k]
def evF (M : Mem) (e f : Nat) : Mem := fun a j => if a = e ∧ 4 ≤ j ∧ j ≤ 14 then M f j else M a j
def eBecM (e f : Nat) (M : Mem) : Mem := fun a j => if a = e ∧ 4 ≤ j ∧ j ≤ 14 then M f j else (mr (mr (cBecM e f (nBecM e f M)) (e+11) (va_cpy (M (f+11)) (M (e+11)) 0 0 7)) (e+12) (va_cpy (M (f+12)) (M (e+12)) 0 0 10)) a j
theorem v_X2_become {e f : Nat} (he : isE e) (hf : isE f) (hef : e + 13 ≤ f ∨ f + 13 ≤ e) (M : Mem) : V m_X2_become 0 [(0, .ref e), (1, .ref f)] [] M (RT none (eBecM e f M)) := by
  refine V.aload_n dX2_become_0 rfl rfl rfl ?_
  refine V.getr dX2_become_1 fg_X2_12 (sh_ev he) rfl rfl ?_
  refine V.aload_n dX2_become_4 rfl rfl rfl ?_
  refine V.getr dX2_become_5 fg_X2_12 (sh_ev hf) rfl rfl ?_
  refine V.callv_v (M1 := nBecM e f M) (md' := m_X4_become) (As := [.ref (f+1)]) (rest := []) dX2_become_8 ml_X2_66 mo_X4_become ⟨Nat.le_of_ble_eq_true rfl, Nat.le_of_ble_eq_true rfl⟩ (sh_nu he) ⟨_, _, rfl⟩ (Nat.le_of_ble_eq_true rfl) rfl rfl (Nat.le_of_ble_eq_true rfl) (v_X4_become he hf hef M) rfl ?_
  refine V.aload_n dX2_become_11 rfl rfl rfl ?_
  refine V.getr dX2_become_12 fg_X2_21 (sh_ev he) rfl rfl ?_
  refine V.aload_n dX2_become_15 rfl rfl rfl ?_
  refine V.getr dX2_become_16 fg_X2_21 (sh_ev hf) rfl rfl ?_
  refine V.callv_v (M1 := cBecM e f (nBecM e f M)) (md' := m_X1_become) (As := [.ref (f+7)]) (rest := []) dX2_become_19 ml_X2_70 mo_X1_become ⟨Nat.le_of_ble_eq_true rfl, Nat.le_of_ble_eq_true rfl⟩ (sh_cr he) ⟨_, _, rfl⟩ (Nat.le_of_ble_eq_true rfl) rfl rfl (Nat.le_of_ble_eq_true rfl) (v_X1_become he hf hef _) rfl ?_
  refine V.aload_n dX2_become_22 rfl rfl rfl ?_
  refine V.getr dX2_become_23 fg_X2_25 (sh_ev hf) rfl rfl ?_
  refine V.iconst (v := 0) dX2_become_26 rfl rfl ?_
  refine V.aload_n dX2_become_27 rfl rfl rfl ?_
  refine V.getr dX2_become_28 fg_X2_25 (sh_ev he) rfl rfl ?_
  refine V.iconst (v := 0) dX2_become_31 rfl rfl ?_
  refine V.bipush (v := 7) dX2_become_32 (by decide) rfl ?_
  refine V.copy (M' := mr (cBecM e f (nBecM e f M)) (e+11) (va_cpy (M (f+11)) (M (e+11)) 0 0 7)) dX2_become_34 ac_X2_73 (sh_a11 hf) (by decide) (sh_a11 he) (by decide) (by decide) (by decide) (by decide) (by decide) (by decide) ⟨Nat.le_of_ble_eq_true rfl, Nat.le_of_ble_eq_true rfl⟩ (by simp (disch := omega) only [mr_k, ms_k, nBecM_k, cBecM_k, cl0, cl7]) rfl ?_
  refine V.aload_n dX2_become_37 rfl rfl rfl ?_
  refine V.getr dX2_become_38 fg_X2_29 (sh_ev hf) rfl rfl ?_
  refine V.iconst (v := 0) dX2_become_41 rfl rfl ?_
  refine V.aload_n dX2_become_42 rfl rfl rfl ?_
  refine V.getr dX2_become_43 fg_X2_29 (sh_ev he) rfl rfl ?_
  refine V.iconst (v := 0) dX2_become_46 rfl rfl ?_
  refine V.bipush (v := 10) dX2_become_47 (by decide) rfl ?_
  refine V.copy (M' := mr (mr (cBecM e f (nBecM e f M)) (e+11) (va_cpy (M (f+11)) (M (e+11)) 0 0 7)) (e+12) (va_cpy (M (f+12)) (M (e+12)) 0 0 10)) dX2_become_49 ac_X2_73 (sh_a12 hf) (by decide) (sh_a12 he) (by decide) (by decide) (by decide) (by decide) (by decide) (by decide) ⟨Nat.le_of_ble_eq_true rfl, Nat.le_of_ble_eq_true rfl⟩ (by simp (disch := omega) only [mr_k, ms_k, nBecM_k, cBecM_k, cl0, cl10]) rfl ?_
  refine V.aload_n dX2_become_52 rfl rfl rfl ?_
  refine V.aload_n dX2_become_53 rfl rfl rfl ?_
  refine V.geti (v := M f 4) dX2_become_54 fg_X2_32 (sh_ev hf) rfl (by simp (disch := omega) only [ms_k, mr_k, cBecM_k, nBecM_k]) rfl ?_
  refine V.puti dX2_become_57 fp_X2_32 (sh_ev he) rfl rfl rfl (M' := (ms (mr (mr (cBecM e f (nBecM e f M)) (e+11) (va_cpy (M (f+11)) (M (e+11)) 0 0 7)) (e+12) (va_cpy (M (f+12)) (M (e+12)) 0 0 10)) e 4 (M f 4))) rfl rfl ?_
  refine V.aload_n dX2_become_60 rfl rfl rfl ?_
  refine V.aload_n dX2_become_61 rfl rfl rfl ?_
  refine V.geti (v := M f 5) dX2_become_62 fg_X2_36 (sh_ev hf) rfl (by simp (disch := omega) only [ms_k, mr_k, cBecM_k, nBecM_k]) rfl ?_
  refine V.puti dX2_become_65 fp_X2_36 (sh_ev he) rfl rfl rfl (M' := (ms (ms (mr (mr (cBecM e f (nBecM e f M)) (e+11) (va_cpy (M (f+11)) (M (e+11)) 0 0 7)) (e+12) (va_cpy (M (f+12)) (M (e+12)) 0 0 10)) e 4 (M f 4)) e 5 (M f 5))) rfl rfl ?_
  refine V.aload_n dX2_become_68 rfl rfl rfl ?_
  refine V.aload_n dX2_become_69 rfl rfl rfl ?_
  refine V.geti (v := M f 6) dX2_become_70 fg_X2_39 (sh_ev hf) rfl (by simp (disch := omega) only [ms_k, mr_k, cBecM_k, nBecM_k]) rfl ?_
  refine V.puti dX2_become_73 fp_X2_39 (sh_ev he) rfl rfl rfl (M' := (ms (ms (ms (mr (mr (cBecM e f (nBecM e f M)) (e+11) (va_cpy (M (f+11)) (M (e+11)) 0 0 7)) (e+12) (va_cpy (M (f+12)) (M (e+12)) 0 0 10)) e 4 (M f 4)) e 5 (M f 5)) e 6 (M f 6))) rfl rfl ?_
  refine V.aload_n dX2_become_76 rfl rfl rfl ?_
  refine V.aload_n dX2_become_77 rfl rfl rfl ?_
  refine V.geti (v := M f 7) dX2_become_78 fg_X2_42 (sh_ev hf) rfl (by simp (disch := omega) only [ms_k, mr_k, cBecM_k, nBecM_k]) rfl ?_
  refine V.puti dX2_become_81 fp_X2_42 (sh_ev he) rfl rfl rfl (M' := (ms (ms (ms (ms (mr (mr (cBecM e f (nBecM e f M)) (e+11) (va_cpy (M (f+11)) (M (e+11)) 0 0 7)) (e+12) (va_cpy (M (f+12)) (M (e+12)) 0 0 10)) e 4 (M f 4)) e 5 (M f 5)) e 6 (M f 6)) e 7 (M f 7))) rfl rfl ?_
  refine V.aload_n dX2_become_84 rfl rfl rfl ?_
  refine V.aload_n dX2_become_85 rfl rfl rfl ?_
  refine V.geti (v := M f 8) dX2_become_86 fg_X2_45 (sh_ev hf) rfl (by simp (disch := omega) only [ms_k, mr_k, cBecM_k, nBecM_k]) rfl ?_
  refine V.puti dX2_become_89 fp_X2_45 (sh_ev he) rfl rfl rfl (M' := (ms (ms (ms (ms (ms (mr (mr (cBecM e f (nBecM e f M)) (e+11) (va_cpy (M (f+11)) (M (e+11)) 0 0 7)) (e+12) (va_cpy (M (f+12)) (M (e+12)) 0 0 10)) e 4 (M f 4)) e 5 (M f 5)) e 6 (M f 6)) e 7 (M f 7)) e 8 (M f 8))) rfl rfl ?_
  refine V.aload_n dX2_become_92 rfl rfl rfl ?_
  refine V.aload_n dX2_become_93 rfl rfl rfl ?_
  refine V.geti (v := M f 9) dX2_become_94 fg_X2_48 (sh_ev hf) rfl (by simp (disch := omega) only [ms_k, mr_k, cBecM_k, nBecM_k]) rfl ?_
  refine V.puti dX2_become_97 fp_X2_48 (sh_ev he) rfl rfl rfl (M' := (ms (ms (ms (ms (ms (ms (mr (mr (cBecM e f (nBecM e f M)) (e+11) (va_cpy (M (f+11)) (M (e+11)) 0 0 7)) (e+12) (va_cpy (M (f+12)) (M (e+12)) 0 0 10)) e 4 (M f 4)) e 5 (M f 5)) e 6 (M f 6)) e 7 (M f 7)) e 8 (M f 8)) e 9 (M f 9))) rfl rfl ?_
  refine V.aload_n dX2_become_100 rfl rfl rfl ?_
  refine V.aload_n dX2_become_101 rfl rfl rfl ?_
  refine V.geti (v := M f 10) dX2_become_102 fg_X2_51 (sh_ev hf) rfl (by simp (disch := omega) only [ms_k, mr_k, cBecM_k, nBecM_k]) rfl ?_
  refine V.puti dX2_become_105 fp_X2_51 (sh_ev he) rfl rfl rfl (M' := (ms (ms (ms (ms (ms (ms (ms (mr (mr (cBecM e f (nBecM e f M)) (e+11) (va_cpy (M (f+11)) (M (e+11)) 0 0 7)) (e+12) (va_cpy (M (f+12)) (M (e+12)) 0 0 10)) e 4 (M f 4)) e 5 (M f 5)) e 6 (M f 6)) e 7 (M f 7)) e 8 (M f 8)) e 9 (M f 9)) e 10 (M f 10))) rfl rfl ?_
  refine V.aload_n dX2_become_108 rfl rfl rfl ?_
  refine V.aload_n dX2_become_109 rfl rfl rfl ?_
  refine V.geti (v := M f 11) dX2_become_110 fg_X2_54 (sh_ev hf) rfl (by simp (disch := omega) only [ms_k, mr_k, cBecM_k, nBecM_k]) rfl ?_
  refine V.puti dX2_become_113 fp_X2_54 (sh_ev he) rfl rfl rfl (M' := (ms (ms (ms (ms (ms (ms (ms (ms (mr (mr (cBecM e f (nBecM e f M)) (e+11) (va_cpy (M (f+11)) (M (e+11)) 0 0 7)) (e+12) (va_cpy (M (f+12)) (M (e+12)) 0 0 10)) e 4 (M f 4)) e 5 (M f 5)) e 6 (M f 6)) e 7 (M f 7)) e 8 (M f 8)) e 9 (M f 9)) e 10 (M f 10)) e 11 (M f 11))) rfl rfl ?_
  refine V.aload_n dX2_become_116 rfl rfl rfl ?_
  refine V.aload_n dX2_become_117 rfl rfl rfl ?_
  refine V.geti (v := M f 12) dX2_become_118 fg_X2_57 (sh_ev hf) rfl (by simp (disch := omega) only [ms_k, mr_k, cBecM_k, nBecM_k]) rfl ?_
  refine V.puti dX2_become_121 fp_X2_57 (sh_ev he) rfl rfl rfl (M' := (ms (ms (ms (ms (ms (ms (ms (ms (ms (mr (mr (cBecM e f (nBecM e f M)) (e+11) (va_cpy (M (f+11)) (M (e+11)) 0 0 7)) (e+12) (va_cpy (M (f+12)) (M (e+12)) 0 0 10)) e 4 (M f 4)) e 5 (M f 5)) e 6 (M f 6)) e 7 (M f 7)) e 8 (M f 8)) e 9 (M f 9)) e 10 (M f 10)) e 11 (M f 11)) e 12 (M f 12))) rfl rfl ?_
  refine V.aload_n dX2_become_124 rfl rfl rfl ?_
  refine V.aload_n dX2_become_125 rfl rfl rfl ?_
  refine V.geti (v := M f 13) dX2_become_126 fg_X2_60 (sh_ev hf) rfl (by simp (disch := omega) only [ms_k, mr_k, cBecM_k, nBecM_k]) rfl ?_
  refine V.puti dX2_become_129 fp_X2_60 (sh_ev he) rfl rfl rfl (M' := (ms (ms (ms (ms (ms (ms (ms (ms (ms (ms (mr (mr (cBecM e f (nBecM e f M)) (e+11) (va_cpy (M (f+11)) (M (e+11)) 0 0 7)) (e+12) (va_cpy (M (f+12)) (M (e+12)) 0 0 10)) e 4 (M f 4)) e 5 (M f 5)) e 6 (M f 6)) e 7 (M f 7)) e 8 (M f 8)) e 9 (M f 9)) e 10 (M f 10)) e 11 (M f 11)) e 12 (M f 12)) e 13 (M f 13))) rfl rfl ?_
  refine V.aload_n dX2_become_132 rfl rfl rfl ?_
  refine V.aload_n dX2_become_133 rfl rfl rfl ?_
  refine V.geti (v := M f 14) dX2_become_134 fg_X2_63 (sh_ev hf) rfl (by simp (disch := omega) only [ms_k, mr_k, cBecM_k, nBecM_k]) rfl ?_
  refine V.puti dX2_become_137 fp_X2_63 (sh_ev he) rfl rfl rfl (M' := (ms (ms (ms (ms (ms (ms (ms (ms (ms (ms (ms (mr (mr (cBecM e f (nBecM e f M)) (e+11) (va_cpy (M (f+11)) (M (e+11)) 0 0 7)) (e+12) (va_cpy (M (f+12)) (M (e+12)) 0 0 10)) e 4 (M f 4)) e 5 (M f 5)) e 6 (M f 6)) e 7 (M f 7)) e 8 (M f 8)) e 9 (M f 9)) e 10 (M f 10)) e 11 (M f 11)) e 12 (M f 12)) e 13 (M f 13)) e 14 (M f 14))) rfl rfl ?_
  exact V.vret dX2_become_140 rfl ⟨rfl, (by funext a j; by_cases h1 : a = e; (subst h1; simp only [ms, eBecM, if_true, true_and]; rcases j with _ | _ | _ | _ | _ | _ | _ | _ | _ | _ | _ | _ | _ | _ | _ | j <;> simp); simp [ms, eBecM, h1])⟩
