/-! The constructors -/
theorem oin : Cond.instanceMethod Lib.objectInit ∈ TBL := tbl_t 24 (by decide +kernel) rfl
theorem ocd : Cond.code Lib.objectInit ⟨#[0xb1]⟩ 1 none ∈ TBL := tbl_t 25 (by decide +kernel) rfl
def zr (cI : ClassId) (a n : Nat) : Nat × va_E := (a, .inl (cI, n, .inl (fun _ => 0)))
theorem mlo_X8 : Cond.methodLink RX8 1 Lib.objectInit ∈ TBL := tbl_t 23 (by decide +kernel) rfl
theorem mli_X8_9 : Cond.methodLink RX8 9 yX2_init ∈ TBL := tbl_t 28 (by decide +kernel) rfl
theorem mli_X8_41 : Cond.methodLink RX8 41 yX7_init ∈ TBL := tbl_t 201 (by decide +kernel) rfl
theorem mlo_X0 : Cond.methodLink RX0 1 Lib.objectInit ∈ TBL := tbl_t 161 (by decide +kernel) rfl
theorem mlo_X1 : Cond.methodLink RX1 3 Lib.objectInit ∈ TBL := tbl_t 72 (by decide +kernel) rfl
theorem mlo_X2 : Cond.methodLink RX2 3 Lib.objectInit ∈ TBL := tbl_t 31 (by decide +kernel) rfl
theorem mlo_X4 : Cond.methodLink RX4 3 Lib.objectInit ∈ TBL := tbl_t 37 (by decide +kernel) rfl
theorem mlo_X5 : Cond.methodLink RX5 1 Lib.objectInit ∈ TBL := tbl_t 217 (by decide +kernel) rfl
theorem mlo_X6 : Cond.methodLink RX6 1 Lib.objectInit ∈ TBL := tbl_t 175 (by decide +kernel) rfl
theorem mlo_X7 : Cond.methodLink RX7 3 Lib.objectInit ∈ TBL := tbl_t 204 (by decide +kernel) rfl
theorem mli_L_9 : Cond.methodLink RL 9 yX8_init ∈ TBL := tbl_t 20 (by decide +kernel) rfl
theorem mli_L_12 : Cond.methodLink RL 12 yX9_init ∈ TBL := tbl_t 874 (by decide +kernel) rfl
theorem mlo_X9 : Cond.methodLink RX9 1 Lib.objectInit ∈ TBL := tbl_t 877 (by decide +kernel) rfl
theorem icd_X0 : Cond.code yX0_init cX0_init 1 none ∈ TBL := tbl_t 160 (by decide +kernel) rfl
theorem iin_X0 : Cond.instanceMethod yX0_init ∈ TBL := tbl_t 159 (by decide +kernel) rfl
theorem ini_X0 : Cond.initialized RX0 ∈ TBL := tbl_t 5 (by decide +kernel) rfl
theorem idd_X0 : yX0_init.cls ≠ "java/lang/invoke/MethodHandle" ∧ yX0_init.cls ≠ "java/lang/invoke/VarHandle" ∧ (parseMethodDescriptor yX0_init.desc).map (fun d => d.parameters.length) = some 0 := by decide +kernel
theorem icd_X1 : Cond.code yX1_init cX1_init 1 none ∈ TBL := tbl_t 71 (by decide +kernel) rfl
theorem iin_X1 : Cond.instanceMethod yX1_init ∈ TBL := tbl_t 70 (by decide +kernel) rfl
theorem ini_X1 : Cond.initialized RX1 ∈ TBL := tbl_t 4 (by decide +kernel) rfl
theorem idd_X1 : yX1_init.cls ≠ "java/lang/invoke/MethodHandle" ∧ yX1_init.cls ≠ "java/lang/invoke/VarHandle" ∧ (parseMethodDescriptor yX1_init.desc).map (fun d => d.parameters.length) = some 0 := by decide +kernel
theorem icd_X2 : Cond.code yX2_init cX2_init 2 none ∈ TBL := tbl_t 30 (by decide +kernel) rfl
theorem iin_X2 : Cond.instanceMethod yX2_init ∈ TBL := tbl_t 29 (by decide +kernel) rfl
theorem ini_X2 : Cond.initialized RX2 ∈ TBL := tbl_t 2 (by decide +kernel) rfl
theorem idd_X2 : yX2_init.cls ≠ "java/lang/invoke/MethodHandle" ∧ yX2_init.cls ≠ "java/lang/invoke/VarHandle" ∧ (parseMethodDescriptor yX2_init.desc).map (fun d => d.parameters.length) = some 0 := by decide +kernel
theorem icd_X4 : Cond.code yX4_init cX4_init 1 none ∈ TBL := tbl_t 36 (by decide +kernel) rfl
theorem iin_X4 : Cond.instanceMethod yX4_init ∈ TBL := tbl_t 35 (by decide +kernel) rfl
theorem ini_X4 : Cond.initialized RX4 ∈ TBL := tbl_t 3 (by decide +kernel) rfl
theorem idd_X4 : yX4_init.cls ≠ "java/lang/invoke/MethodHandle" ∧ yX4_init.cls ≠ "java/lang/invoke/VarHandle" ∧ (parseMethodDescriptor yX4_init.desc).map (fun d => d.parameters.length) = some 0 := by decide +kernel
theorem icd_X5 : Cond.code yX5_init cX5_init 1 none ∈ TBL := tbl_t 216 (by decide +kernel) rfl
theorem iin_X5 : Cond.instanceMethod yX5_init ∈ TBL := tbl_t 215 (by decide +kernel) rfl
theorem ini_X5 : Cond.initialized RX5 ∈ TBL := tbl_t 8 (by decide +kernel) rfl
theorem idd_X5 : yX5_init.cls ≠ "java/lang/invoke/MethodHandle" ∧ yX5_init.cls ≠ "java/lang/invoke/VarHandle" ∧ (parseMethodDescriptor yX5_init.desc).map (fun d => d.parameters.length) = some 0 := by decide +kernel
theorem icd_X6 : Cond.code yX6_init cX6_init 1 none ∈ TBL := tbl_t 174 (by decide +kernel) rfl
theorem iin_X6 : Cond.instanceMethod yX6_init ∈ TBL := tbl_t 173 (by decide +kernel) rfl
theorem ini_X6 : Cond.initialized RX6 ∈ TBL := tbl_t 6 (by decide +kernel) rfl
theorem idd_X6 : yX6_init.cls ≠ "java/lang/invoke/MethodHandle" ∧ yX6_init.cls ≠ "java/lang/invoke/VarHandle" ∧ (parseMethodDescriptor yX6_init.desc).map (fun d => d.parameters.length) = some 0 := by decide +kernel
theorem icd_X7 : Cond.code yX7_init cX7_init 3 none ∈ TBL := tbl_t 203 (by decide +kernel) rfl
theorem iin_X7 : Cond.instanceMethod yX7_init ∈ TBL := tbl_t 202 (by decide +kernel) rfl
theorem ini_X7 : Cond.initialized RX7 ∈ TBL := tbl_t 7 (by decide +kernel) rfl
theorem idd_X7 : yX7_init.cls ≠ "java/lang/invoke/MethodHandle" ∧ yX7_init.cls ≠ "java/lang/invoke/VarHandle" ∧ (parseMethodDescriptor yX7_init.desc).map (fun d => d.parameters.length) = some 2 := by decide +kernel
theorem icd_X8 : Cond.code yX8_init cX8_init 1 none ∈ TBL := tbl_t 22 (by decide +kernel) rfl
theorem iin_X8 : Cond.instanceMethod yX8_init ∈ TBL := tbl_t 21 (by decide +kernel) rfl
theorem ini_X8 : Cond.initialized RX8 ∈ TBL := tbl_t 1 (by decide +kernel) rfl
theorem idd_X8 : yX8_init.cls ≠ "java/lang/invoke/MethodHandle" ∧ yX8_init.cls ≠ "java/lang/invoke/VarHandle" ∧ (parseMethodDescriptor yX8_init.desc).map (fun d => d.parameters.length) = some 0 := by decide +kernel
theorem icd_X9 : Cond.code yX9_init cX9_init 2 none ∈ TBL := tbl_t 876 (by decide +kernel) rfl
theorem iin_X9 : Cond.instanceMethod yX9_init ∈ TBL := tbl_t 875 (by decide +kernel) rfl
theorem ini_X9 : Cond.initialized RX9 ∈ TBL := tbl_t 9 (by decide +kernel) rfl
theorem idd_X9 : yX9_init.cls ≠ "java/lang/invoke/MethodHandle" ∧ yX9_init.cls ≠ "java/lang/invoke/VarHandle" ∧ (parseMethodDescriptor yX9_init.desc).map (fun d => d.parameters.length) = some 0 := by decide +kernel
theorem clk_L_7 : Cond.classLink RL 7 RX8 ∈ TBL := tbl_t 18 (by decide +kernel) rfl
theorem ist_X8 : Cond.instantiable RX8 10 ∈ TBL := tbl_t 19 (by decide +kernel) rfl
theorem clk_X8_7 : Cond.classLink RX8 7 RX2 ∈ TBL := tbl_t 26 (by decide +kernel) rfl
theorem ist_X2 : Cond.instantiable RX2 15 ∈ TBL := tbl_t 27 (by decide +kernel) rfl
theorem clk_X2_9 : Cond.classLink RX2 9 RX4 ∈ TBL := tbl_t 32 (by decide +kernel) rfl
theorem ist_X4 : Cond.instantiable RX4 6 ∈ TBL := tbl_t 33 (by decide +kernel) rfl
theorem clk_X2_18 : Cond.classLink RX2 18 RX1 ∈ TBL := tbl_t 67 (by decide +kernel) rfl
theorem ist_X1 : Cond.instantiable RX1 4 ∈ TBL := tbl_t 68 (by decide +kernel) rfl
theorem clk_X8_25 : Cond.classLink RX8 25 RX0 ∈ TBL := tbl_t 156 (by decide +kernel) rfl
theorem ist_X0 : Cond.instantiable RX0 2 ∈ TBL := tbl_t 157 (by decide +kernel) rfl
theorem clk_X8_32 : Cond.classLink RX8 32 RX6 ∈ TBL := tbl_t 170 (by decide +kernel) rfl
theorem ist_X6 : Cond.instantiable RX6 6 ∈ TBL := tbl_t 171 (by decide +kernel) rfl
theorem clk_X8_39 : Cond.classLink RX8 39 RX7 ∈ TBL := tbl_t 199 (by decide +kernel) rfl
theorem ist_X7 : Cond.instantiable RX7 2 ∈ TBL := tbl_t 200 (by decide +kernel) rfl
theorem clk_X8_48 : Cond.classLink RX8 48 RX5 ∈ TBL := tbl_t 212 (by decide +kernel) rfl
theorem ist_X5 : Cond.instantiable RX5 3 ∈ TBL := tbl_t 213 (by decide +kernel) rfl
theorem clk_L_10 : Cond.classLink RL 10 RX9 ∈ TBL := tbl_t 872 (by decide +kernel) rfl
theorem ist_X9 : Cond.instantiable RX9 15 ∈ TBL := tbl_t 873 (by decide +kernel) rfl
theorem ff_X8_10 : FF RX8 10 7 0 := ⟨RX8, TX8, 10, cls_X8, by decide, tbl_t 230 (by decide +kernel) rfl, rfl, rfl, (.object "ChestnutCorner$Evening"), by decide +kernel, fun r => ⟨rfl, rfl⟩⟩
theorem ff_X8_16 : FF RX8 16 7 1 := ⟨RX8, TX8, 10, cls_X8, by decide, tbl_t 231 (by decide +kernel) rfl, rfl, rfl, (.object "ChestnutCorner$Evening"), by decide +kernel, fun r => ⟨rfl, rfl⟩⟩
theorem ff_X8_19 : FF RX8 19 7 2 := ⟨RX8, TX8, 10, cls_X8, by decide, tbl_t 232 (by decide +kernel) rfl, rfl, rfl, (.object "ChestnutCorner$Evening"), by decide +kernel, fun r => ⟨rfl, rfl⟩⟩
theorem ff_X8_22 : FF RX8 22 7 3 := ⟨RX8, TX8, 10, cls_X8, by decide, tbl_t 233 (by decide +kernel) rfl, rfl, rfl, (.object "ChestnutCorner$Evening"), by decide +kernel, fun r => ⟨rfl, rfl⟩⟩
theorem ff_X8_28 : FF RX8 28 7 4 := ⟨RX8, TX8, 10, cls_X8, by decide, tbl_t 234 (by decide +kernel) rfl, rfl, rfl, (.object "ChestnutCorner$Choice"), by decide +kernel, fun r => ⟨rfl, rfl⟩⟩
theorem ff_X8_35 : FF RX8 35 7 5 := ⟨RX8, TX8, 10, cls_X8, by decide, tbl_t 235 (by decide +kernel) rfl, rfl, rfl, (.object "ChestnutCorner$Tape"), by decide +kernel, fun r => ⟨rfl, rfl⟩⟩
theorem ff_X8_44 : FF RX8 44 7 6 := ⟨RX8, TX8, 10, cls_X8, by decide, tbl_t 236 (by decide +kernel) rfl, rfl, rfl, (.object "ChestnutCorner$TextReader"), by decide +kernel, fun r => ⟨rfl, rfl⟩⟩
theorem ff_X8_51 : FF RX8 51 7 7 := ⟨RX8, TX8, 10, cls_X8, by decide, tbl_t 237 (by decide +kernel) rfl, rfl, rfl, (.object "ChestnutCorner$Sheets"), by decide +kernel, fun r => ⟨rfl, rfl⟩⟩
theorem ff_X8_55 : FF RX8 55 7 8 := ⟨RX8, TX8, 10, cls_X8, by decide, tbl_t 238 (by decide +kernel) rfl, rfl, rfl, (.array .int), by decide +kernel, fun r => ⟨rfl, rfl⟩⟩
theorem ff_X1_9 : FF RX1 9 1 0 := ⟨RX1, TX1, 4, cls_X1, by decide, tbl_t 73 (by decide +kernel) rfl, rfl, rfl, (.array .int), by decide +kernel, fun r => ⟨rfl, rfl⟩⟩
theorem ff_X1_15 : FF RX1 15 1 1 := ⟨RX1, TX1, 4, cls_X1, by decide, tbl_t 76 (by decide +kernel) rfl, rfl, rfl, (.array .int), by decide +kernel, fun r => ⟨rfl, rfl⟩⟩
theorem ff_X1_18 : FF RX1 18 1 2 := ⟨RX1, TX1, 4, cls_X1, by decide, tbl_t 79 (by decide +kernel) rfl, rfl, rfl, (.array .int), by decide +kernel, fun r => ⟨rfl, rfl⟩⟩
theorem ff_X2_12 : FF RX2 12 2 0 := ⟨RX2, TX2, 15, cls_X2, by decide, tbl_t 94 (by decide +kernel) rfl, rfl, rfl, (.object "ChestnutCorner$Nuts"), by decide +kernel, fun r => ⟨rfl, rfl⟩⟩
theorem ff_X2_21 : FF RX2 21 2 1 := ⟨RX2, TX2, 15, cls_X2, by decide, tbl_t 97 (by decide +kernel) rfl, rfl, rfl, (.object "ChestnutCorner$Crowds"), by decide +kernel, fun r => ⟨rfl, rfl⟩⟩
theorem ff_X2_25 : FF RX2 25 2 2 := ⟨RX2, TX2, 15, cls_X2, by decide, tbl_t 100 (by decide +kernel) rfl, rfl, rfl, (.array .int), by decide +kernel, fun r => ⟨rfl, rfl⟩⟩
theorem ff_X2_29 : FF RX2 29 2 3 := ⟨RX2, TX2, 15, cls_X2, by decide, tbl_t 101 (by decide +kernel) rfl, rfl, rfl, (.array .int), by decide +kernel, fun r => ⟨rfl, rfl⟩⟩
theorem ff_X4_9 : FF RX4 9 3 0 := ⟨RX4, TX4, 6, cls_X4, by decide, tbl_t 38 (by decide +kernel) rfl, rfl, rfl, (.array .int), by decide +kernel, fun r => ⟨rfl, rfl⟩⟩
theorem ff_X4_15 : FF RX4 15 3 1 := ⟨RX4, TX4, 6, cls_X4, by decide, tbl_t 41 (by decide +kernel) rfl, rfl, rfl, (.array .int), by decide +kernel, fun r => ⟨rfl, rfl⟩⟩
theorem ff_X4_18 : FF RX4 18 3 2 := ⟨RX4, TX4, 6, cls_X4, by decide, tbl_t 44 (by decide +kernel) rfl, rfl, rfl, (.array .int), by decide +kernel, fun r => ⟨rfl, rfl⟩⟩
theorem ff_X4_21 : FF RX4 21 3 3 := ⟨RX4, TX4, 6, cls_X4, by decide, tbl_t 47 (by decide +kernel) rfl, rfl, rfl, (.array .int), by decide +kernel, fun r => ⟨rfl, rfl⟩⟩
theorem ff_X4_24 : FF RX4 24 3 4 := ⟨RX4, TX4, 6, cls_X4, by decide, tbl_t 49 (by decide +kernel) rfl, rfl, rfl, (.array .int), by decide +kernel, fun r => ⟨rfl, rfl⟩⟩
theorem ff_X5_9 : FF RX5 9 4 0 := ⟨RX5, TX5, 3, cls_X5, by decide, tbl_t 218 (by decide +kernel) rfl, rfl, rfl, (.array .int), by decide +kernel, fun r => ⟨rfl, rfl⟩⟩
theorem ff_X5_13 : FF RX5 13 4 1 := ⟨RX5, TX5, 3, cls_X5, by decide, tbl_t 220 (by decide +kernel) rfl, rfl, rfl, (.array .int), by decide +kernel, fun r => ⟨rfl, rfl⟩⟩
theorem ff_X5_16 : FF RX5 16 4 2 := ⟨RX5, TX5, 3, cls_X5, by decide, tbl_t 222 (by decide +kernel) rfl, rfl, rfl, (.array .int), by decide +kernel, fun r => ⟨rfl, rfl⟩⟩
theorem ff_X6_9 : FF RX6 9 5 0 := ⟨RX6, TX6, 6, cls_X6, by decide, tbl_t 176 (by decide +kernel) rfl, rfl, rfl, (.array .int), by decide +kernel, fun r => ⟨rfl, rfl⟩⟩
theorem ff_X7_9 : FF RX7 9 6 0 := ⟨RX7, TX7, 2, cls_X7, by decide, tbl_t 205 (by decide +kernel) rfl, rfl, rfl, (.object "ChestnutCorner$Tape"), by decide +kernel, fun r => ⟨rfl, rfl⟩⟩
theorem ff_X7_15 : FF RX7 15 6 1 := ⟨RX7, TX7, 2, cls_X7, by decide, tbl_t 206 (by decide +kernel) rfl, rfl, rfl, (.object "ChestnutCorner$Evening"), by decide +kernel, fun r => ⟨rfl, rfl⟩⟩
theorem ff_X9_7 : FF RX9 7 8 0 := ⟨RX9, TX9, 15, cls_X9, by decide, tbl_t 878 (by decide +kernel) rfl, rfl, rfl, (.array .int), by decide +kernel, fun r => ⟨rfl, rfl⟩⟩
theorem ff_X9_13 : FF RX9 13 8 1 := ⟨RX9, TX9, 15, cls_X9, by decide, tbl_t 879 (by decide +kernel) rfl, rfl, rfl, (.array .int), by decide +kernel, fun r => ⟨rfl, rfl⟩⟩
theorem ff_X9_16 : FF RX9 16 8 2 := ⟨RX9, TX9, 15, cls_X9, by decide, tbl_t 880 (by decide +kernel) rfl, rfl, rfl, (.array .int), by decide +kernel, fun r => ⟨rfl, rfl⟩⟩
theorem ff_X9_19 : FF RX9 19 8 3 := ⟨RX9, TX9, 15, cls_X9, by decide, tbl_t 881 (by decide +kernel) rfl, rfl, rfl, (.array .int), by decide +kernel, fun r => ⟨rfl, rfl⟩⟩
theorem ff_X9_22 : FF RX9 22 8 5 := ⟨RX9, TX9, 15, cls_X9, by decide, tbl_t 883 (by decide +kernel) rfl, rfl, rfl, (.array .int), by decide +kernel, fun r => ⟨rfl, rfl⟩⟩
theorem ff_X9_25 : FF RX9 25 8 11 := ⟨RX9, TX9, 15, cls_X9, by decide, tbl_t 889 (by decide +kernel) rfl, rfl, rfl, (.array .int), by decide +kernel, fun r => ⟨rfl, rfl⟩⟩
theorem ff_X9_28 : FF RX9 28 8 12 := ⟨RX9, TX9, 15, cls_X9, by decide, tbl_t 890 (by decide +kernel) rfl, rfl, rfl, (.array .int), by decide +kernel, fun r => ⟨rfl, rfl⟩⟩
theorem ff_X9_31 : FF RX9 31 8 13 := ⟨RX9, TX9, 15, cls_X9, by decide, tbl_t 891 (by decide +kernel) rfl, rfl, rfl, (.array .int), by decide +kernel, fun r => ⟨rfl, rfl⟩⟩
theorem ff_X9_34 : FF RX9 34 8 14 := ⟨RX9, TX9, 15, cls_X9, by decide, tbl_t 892 (by decide +kernel) rfl, rfl, rfl, (.array .int), by decide +kernel, fun r => ⟨rfl, rfl⟩⟩
section CG
variable {p : Program} {l : Launch} {e : Env} {R : Room} {s : State} {m : MethodId} {args : Array Value} {below : List Frame} {meth : Method} {c : Code} {H : Heap} {locs : List Loc} {cells slots : Nat} {Q : State → Prop}
variable {own : String} {cc : ByteArray} {nL : Nat} {cI : ClassId} {D : va_G} {A : Nat → Prop} {pc pc' : Nat} {ls : Array Slot} {rest : List Value} {q0 ci idx j : Nat} {fs : List Value} {Wd : va_W} {q : Nat × va_E}
theorem k_get {v : Value} (hC : CK own cc nL cI D p s m args c) (h : WK D A s.heap H locs ((q0, .inr (ci, fs)) :: Wd)) (hF : FG own idx ci j) (hv : fs[j]? = some v) (hdg : decode cc pc = .ok (.getfield idx, 3)) (hp : pc + 3 = pc') (kk : W p l e R s m args below meth c H locs cells slots Q (F0 m pc' ls (v :: rest))) : W p l e R s m args below meth c H locs cells slots Q (F0 m pc ls (.ref q0 :: rest)) := by
  subst hp
  obtain ⟨C, T, N, hcl, hj, hlink⟩ := hF
  exact va_get (C := C) (T := T) (N := N) (ci := ci) (D := D) (cl := vwCl) (tys := [(cI, .int)]) (ws := (q0, .inr (ci, fs)) :: Wd) (v := v) hC.1 hC.2.1 hC.2.2.2.2.1 hcl.2.1 hC.2.2.2.1 hC.2.2.2.2.2.1 h.1 0 rfl hcl.1 j hj (hC.2.2.2.2.1 _ hlink) (fun _ h9 => h9) hv hdg kk
theorem k_ias {z r n i : Nat} {x y : Int32} {f : Nat → Int32} (hC : CK own cc nL cI D p s m args c) (h : WK D A s.heap H locs (q :: Wd)) (ha : Wd[z]? = some (r, .inl (cI, n, .inl f))) (hy : y = nI i) (hi : i < n) (hn : n < 1000) (hdg : decode cc pc = .ok (.iastore, 1)) (hp : pc + 1 = pc')
    (kk : ∀ (H1 : Heap) (locs1 : List Loc), WK D A s.heap H1 locs1 (q :: Wd.set z (r, .inl (cI, n, .inl (upd f i x)))) → W p l e R s m args below meth c H1 locs1 cells slots Q (F0 m pc' ls rest)) : W p l e R s m args below meth c H locs cells slots Q (F0 m pc ls (.int x :: .int y :: .ref r :: rest)) := by
  subst hp
  subst hy
  refine va_iast (D := D) (cl := vwCl) (tys := [(cI, .int)]) (ws := q :: Wd) hC.1 hC.2.1 hC.2.2.2.2.2.1 h.1 h.2.1 h.2.2 (z + 1) 0 (by simpa using ha) rfl (vp_in_nI hi (by omega)) hdg (fun H1 locs1 hP1 hD1 hS1 => ?_)
  rw [nI_clamp (by omega)] at hP1 hD1
  exact kk H1 locs1 ⟨hP1, hD1, hS1⟩
end CG
def pNuts (q : Nat) (a : Nat → Nat) (cI : ClassId) : va_W := [(q, .inr (3, [.ref (a 0), .ref (a 1), .ref (a 2), .ref (a 3), .ref (a 4), .int 0])), zr cI (a 0) 10, zr cI (a 1) 10, zr cI (a 2) 10, zr cI (a 3) 10, zr cI (a 4) 10]
def pCrowds (q : Nat) (a : Nat → Nat) (cI : ClassId) : va_W := [(q, .inr (1, [.ref (a 0), .ref (a 1), .ref (a 2), .int 0])), zr cI (a 0) 12, zr cI (a 1) 12, zr cI (a 2) 12]
def fSp (i : Nat) : Nat → Int32 := fun k => if k < i then -1 else 0
def pEv (q : Nat) (a : Nat → Nat) (cI : ClassId) : va_W := [(q, .inr (2, [.ref (a 0), .ref (a 6), .ref (a 10), .ref (a 11), .int 5, .int 4, .int 5, .int 0, .int 0, .int 0, .int 0, .int 0, .int 0, .int 0, .int 1])), (a 0, .inr (3, [.ref (a 1), .ref (a 2), .ref (a 3), .ref (a 4), .ref (a 5), .int 0])), zr cI (a 1) 10, zr cI (a 2) 10, zr cI (a 3) 10, zr cI (a 4) 10, zr cI (a 5) 10, (a 6, .inr (1, [.ref (a 7), .ref (a 8), .ref (a 9), .int 0])), zr cI (a 7) 12, zr cI (a 8) 12, zr cI (a 9) 12, zr cI (a 10) 7, (a 11, .inl (cI, 10, .inl (fSp 10)))]
def pChoice (q : Nat) (_ : Nat → Nat) (_ : ClassId) : va_W := [(q, .inr (0, [.int (-1), .int 0]))]
def pTape (q : Nat) (a : Nat → Nat) (cI : ClassId) : va_W := [(q, .inr (5, [.ref (a 0), .int 0, .int 0, .int 0, .int 0, .int 0])), zr cI (a 0) 120]
def pReader (t v : Nat) (q : Nat) (_ : Nat → Nat) (_ : ClassId) : va_W := [(q, .inr (6, [.ref t, .ref v]))]
def pSheets (q : Nat) (a : Nat → Nat) (cI : ClassId) : va_W := [(q, .inr (4, [.ref (a 0), .ref (a 1), .ref (a 2)])), zr cI (a 0) 4, zr cI (a 1) 4, zr cI (a 2) 160]
def kCorner (q : Nat) (a : Nat → Nat) (cI : ClassId) : va_W := (q, .inr (7, [.ref (a 1), .ref (a 14), .ref (a 27), .ref (a 40), .ref (a 53), .ref (a 54), .ref (a 56), .ref (a 57), .ref (a 61), .int 0])) :: (pEv (a 1) (fun k => a (2 + k)) cI ++ (pEv (a 14) (fun k => a (15 + k)) cI ++ (pEv (a 27) (fun k => a (28 + k)) cI ++ (pEv (a 40) (fun k => a (41 + k)) cI ++ (pChoice (a 53) a cI ++ (pTape (a 54) (fun _ => a 55) cI ++ (pReader (a 54) (a 27) (a 56) a cI ++ (pSheets (a 57) (fun k => a (58 + k)) cI ++ [zr cI (a 61) 7]))))))))
def fM (i : Nat) : Nat → Int32 := fun k => if 106 ≤ k ∧ k < 106 + i then -1 else if k = 3 then 1 else if k = 4 then 5 else if k = 5 then 4 else if k = 6 then 5 else 0
def pModel (q : Nat) (a : Nat → Nat) (cI : ClassId) : va_W := [(q, .inr (8, [.ref (a 0), .ref (a 1), .ref (a 2), .ref (a 3), .int 0, .ref (a 4), .int 0, .int 0, .int 0, .int 0, .int 0, .ref (a 5), .ref (a 6), .ref (a 7), .ref (a 8)])), (a 0, .inl (cI, 116, .inl (fM 10))), zr cI (a 1) 116, zr cI (a 2) 116, zr cI (a 3) 7, zr cI (a 4) 120, zr cI (a 5) 4, zr cI (a 6) 4, zr cI (a 7) 160, zr cI (a 8) 40]
theorem im_X0 : IM yX0_init cX0_init 1 { frames := 1, cells := 0, slots := 0, locals := 12 } [] 0 [.int 0, .int 0] pChoice 0 0 := by
  intro l D cI q sz
  unfold IQ2
  refine Met.ofW (cc := cX0_init) (maxL := 1) (ret := none) (by decide) rfl ?_
  intro p e s m args below meth c s₁ B hml hv
  obtain ⟨rfl, hsz, hP, hK, hD0, hN⟩ := hv
  have hts := atoms_spec (ws := Cond.code yX0_init cX0_init 1 none :: TBL) B.pre
  have hC : CK RX0 cX0_init 1 cI D p s m ([.ref q] : List Value).toArray c := ⟨B.exec, B.bytes, hml, findClass_of_methodNamed B.named, fun w hw => hts w (List.mem_cons_of_mem _ hw), hK, hN⟩
  have hin : meth.name = "<init>" := (name_of_methodNamed B.named B.method).1
  have hr := B.returns
  have hlocks := B.notSynchronized
  subst hsz
  have hD := hD0.self (sz := s.heap.size)
  generalize hAe : va_A [(q, .inr (0, [.int 0, .int 0]))] s.heap.size = A at hD ⊢
  have hA : ∀ z : Nat, s.heap.size ≤ z → A z := fun z h => by rw [← hAe]; exact Or.inr h
  have h : WK D A s.heap s.heap [] [(q, .inr (0, [.int 0, .int 0]))] := ⟨hP, hD, va_S.rf⟩
  have hl := lv_entry ([.ref q]) (n := 1) (Nat.le_of_ble_eq_true rfl)
  rw [lg_entry_eq]
  generalize (lg_sl ([.ref q]) ++ List.replicate (1 - (lg_sl ([.ref q])).length) Slot.unset).toArray = ls at hl ⊢
  have hl : lv_has ls 1 [(0, .ref q)] := hl
  refine lv_aload_n hC.1 hC.2.1 dX0_init_0 rfl (lv_at hl 0 rfl) ?_
  refine W.objInit hC.1 hC.2.1 hC.2.2.2.1 (hC.2.2.2.2.1 _ mlo_X0) (hC.2.2.2.2.1 _ oin) (hC.2.2.2.2.1 _ ocd) rfl (by rw [hml]; exact hl.1) rfl dX0_init_1 (Nat.le_of_ble_eq_true rfl) (Nat.le_of_ble_eq_true rfl) ?_
  refine W.eq (g2 := F0 m 4 ls []) rfl ?_
  refine lv_aload_n hC.1 hC.2.1 dX0_init_4 rfl (lv_at hl 0 rfl) ?_
  refine lv_iconst (v := -1) hC.1 hC.2.1 dX0_init_5 (by decide) ?_
  refine k_int hC h fp_X0_7 rfl rfl (Nat.le_of_ble_eq_true rfl) dX0_init_6 rfl (fun H locs h => ?_)
  have h : WK D A s.heap H locs ((q, .inr (0, [.int (-1), .int 0])) :: ([])) := h
  refine lv_aload_n hC.1 hC.2.1 dX0_init_9 rfl (lv_at hl 0 rfl) ?_
  refine lv_iconst (v := 0) hC.1 hC.2.1 dX0_init_10 (by decide) ?_
  refine k_int hC h fp_X0_13 rfl rfl (Nat.le_of_ble_eq_true rfl) dX0_init_11 rfl (fun H locs h => ?_)
  have h : WK D A s.heap H locs ((q, .inr (0, [.int (-1), .int 0])) :: ([])) := h
  refine W.widen (k := 0) (n := 0) (Nat.le_of_ble_eq_true rfl) (Nat.le_of_ble_eq_true rfl) ?_
  exact W.vret hC.1 hC.2.1 hr (fun t ht hW => ⟨⟨fun k => [].getD k 0, rfl, trivial, by rw [ht]; exact h.1, h.2.1⟩, h.2.2.F ht⟩) h.2.2.2.2 dX0_init_14
theorem im_X1 : IM yX1_init cX1_init 1 { frames := 1, cells := 3, slots := 36, locals := 12 } [] 1 [.null, .null, .null, .int 0] pCrowds 3 36 := by
  intro l D cI q sz
  unfold IQ2
  refine Met.ofW (cc := cX1_init) (maxL := 1) (ret := none) (by decide) rfl ?_
  intro p e s m args below meth c s₁ B hml hv
  obtain ⟨rfl, hsz, hP, hK, hD0, hN⟩ := hv
  have hts := atoms_spec (ws := Cond.code yX1_init cX1_init 1 none :: TBL) B.pre
  have hC : CK RX1 cX1_init 1 cI D p s m ([.ref q] : List Value).toArray c := ⟨B.exec, B.bytes, hml, findClass_of_methodNamed B.named, fun w hw => hts w (List.mem_cons_of_mem _ hw), hK, hN⟩
  have hin : meth.name = "<init>" := (name_of_methodNamed B.named B.method).1
  have hr := B.returns
  have hlocks := B.notSynchronized
  subst hsz
  have hD := hD0.self (sz := s.heap.size)
  generalize hAe : va_A [(q, .inr (1, [.null, .null, .null, .int 0]))] s.heap.size = A at hD ⊢
  have hA : ∀ z : Nat, s.heap.size ≤ z → A z := fun z h => by rw [← hAe]; exact Or.inr h
  have h : WK D A s.heap s.heap [] [(q, .inr (1, [.null, .null, .null, .int 0]))] := ⟨hP, hD, va_S.rf⟩
  have hl := lv_entry ([.ref q]) (n := 1) (Nat.le_of_ble_eq_true rfl)
  rw [lg_entry_eq]
  generalize (lg_sl ([.ref q]) ++ List.replicate (1 - (lg_sl ([.ref q])).length) Slot.unset).toArray = ls at hl ⊢
  have hl : lv_has ls 1 [(0, .ref q)] := hl
  refine lv_aload_n hC.1 hC.2.1 dX1_init_0 rfl (lv_at hl 0 rfl) ?_
  refine W.objInit hC.1 hC.2.1 hC.2.2.2.1 (hC.2.2.2.2.1 _ mlo_X1) (hC.2.2.2.2.1 _ oin) (hC.2.2.2.2.1 _ ocd) rfl (by rw [hml]; exact hl.1) rfl dX1_init_1 (Nat.le_of_ble_eq_true rfl) (Nat.le_of_ble_eq_true rfl) ?_
  refine W.eq (g2 := F0 m 4 ls []) rfl ?_
  refine lv_aload_n hC.1 hC.2.1 dX1_init_4 rfl (lv_at hl 0 rfl) ?_
  refine lv_bipush (v := 12) hC.1 hC.2.1 dX1_init_5 (by decide) ?_
  refine k_arr (n := 12) rfl hC hA hin h ff_X1_9 (Nat.le_of_ble_eq_true rfl) (by decide) (Nat.le_of_ble_eq_true rfl) (Nat.le_of_ble_eq_true rfl) dX1_init_7 dX1_init_9 rfl (fun r1 H locs h => ?_)
  have h : WK D A s.heap H locs ((q, .inr (1, [.ref r1, .null, .null, .int 0])) :: ([] ++ [zr cI r1 12])) := h
  refine lv_aload_n hC.1 hC.2.1 dX1_init_12 rfl (lv_at hl 0 rfl) ?_
  refine lv_bipush (v := 12) hC.1 hC.2.1 dX1_init_13 (by decide) ?_
  refine k_arr (n := 12) rfl hC hA hin h ff_X1_15 (Nat.le_of_ble_eq_true rfl) (by decide) (Nat.le_of_ble_eq_true rfl) (Nat.le_of_ble_eq_true rfl) dX1_init_15 dX1_init_17 rfl (fun r2 H locs h => ?_)
  have h : WK D A s.heap H locs ((q, .inr (1, [.ref r1, .ref r2, .null, .int 0])) :: ([] ++ [zr cI r1 12] ++ [zr cI r2 12])) := h
  refine lv_aload_n hC.1 hC.2.1 dX1_init_20 rfl (lv_at hl 0 rfl) ?_
  refine lv_bipush (v := 12) hC.1 hC.2.1 dX1_init_21 (by decide) ?_
  refine k_arr (n := 12) rfl hC hA hin h ff_X1_18 (Nat.le_of_ble_eq_true rfl) (by decide) (Nat.le_of_ble_eq_true rfl) (Nat.le_of_ble_eq_true rfl) dX1_init_23 dX1_init_25 rfl (fun r3 H locs h => ?_)
  have h : WK D A s.heap H locs ((q, .inr (1, [.ref r1, .ref r2, .ref r3, .int 0])) :: ([] ++ [zr cI r1 12] ++ [zr cI r2 12] ++ [zr cI r3 12])) := h
  refine lv_aload_n hC.1 hC.2.1 dX1_init_28 rfl (lv_at hl 0 rfl) ?_
  refine lv_iconst (v := 0) hC.1 hC.2.1 dX1_init_29 (by decide) ?_
  refine k_int hC h fp_X1_21 rfl rfl (Nat.le_of_ble_eq_true rfl) dX1_init_30 rfl (fun H locs h => ?_)
  have h : WK D A s.heap H locs ((q, .inr (1, [.ref r1, .ref r2, .ref r3, .int 0])) :: ([] ++ [zr cI r1 12] ++ [zr cI r2 12] ++ [zr cI r3 12])) := h
  refine W.widen (k := 3) (n := 36) (Nat.le_of_ble_eq_true rfl) (Nat.le_of_ble_eq_true rfl) ?_
  exact W.vret hC.1 hC.2.1 hr (fun t ht hW => ⟨⟨fun k => [r1, r2, r3].getD k 0, rfl, trivial, by rw [ht]; exact h.1, h.2.1⟩, h.2.2.F ht⟩) h.2.2.2.2 dX1_init_33
theorem im_X4 : IM yX4_init cX4_init 1 { frames := 1, cells := 5, slots := 50, locals := 12 } [] 3 [.null, .null, .null, .null, .null, .int 0] pNuts 5 50 := by
  intro l D cI q sz
  unfold IQ2
  refine Met.ofW (cc := cX4_init) (maxL := 1) (ret := none) (by decide) rfl ?_
  intro p e s m args below meth c s₁ B hml hv
  obtain ⟨rfl, hsz, hP, hK, hD0, hN⟩ := hv
  have hts := atoms_spec (ws := Cond.code yX4_init cX4_init 1 none :: TBL) B.pre
  have hC : CK RX4 cX4_init 1 cI D p s m ([.ref q] : List Value).toArray c := ⟨B.exec, B.bytes, hml, findClass_of_methodNamed B.named, fun w hw => hts w (List.mem_cons_of_mem _ hw), hK, hN⟩
  have hin : meth.name = "<init>" := (name_of_methodNamed B.named B.method).1
  have hr := B.returns
  have hlocks := B.notSynchronized
  subst hsz
  have hD := hD0.self (sz := s.heap.size)
  generalize hAe : va_A [(q, .inr (3, [.null, .null, .null, .null, .null, .int 0]))] s.heap.size = A at hD ⊢
  have hA : ∀ z : Nat, s.heap.size ≤ z → A z := fun z h => by rw [← hAe]; exact Or.inr h
  have h : WK D A s.heap s.heap [] [(q, .inr (3, [.null, .null, .null, .null, .null, .int 0]))] := ⟨hP, hD, va_S.rf⟩
  have hl := lv_entry ([.ref q]) (n := 1) (Nat.le_of_ble_eq_true rfl)
  rw [lg_entry_eq]
  generalize (lg_sl ([.ref q]) ++ List.replicate (1 - (lg_sl ([.ref q])).length) Slot.unset).toArray = ls at hl ⊢
  have hl : lv_has ls 1 [(0, .ref q)] := hl
  refine lv_aload_n hC.1 hC.2.1 dX4_init_0 rfl (lv_at hl 0 rfl) ?_
  refine W.objInit hC.1 hC.2.1 hC.2.2.2.1 (hC.2.2.2.2.1 _ mlo_X4) (hC.2.2.2.2.1 _ oin) (hC.2.2.2.2.1 _ ocd) rfl (by rw [hml]; exact hl.1) rfl dX4_init_1 (Nat.le_of_ble_eq_true rfl) (Nat.le_of_ble_eq_true rfl) ?_
  refine W.eq (g2 := F0 m 4 ls []) rfl ?_
  refine lv_aload_n hC.1 hC.2.1 dX4_init_4 rfl (lv_at hl 0 rfl) ?_
  refine lv_bipush (v := 10) hC.1 hC.2.1 dX4_init_5 (by decide) ?_
  refine k_arr (n := 10) rfl hC hA hin h ff_X4_9 (Nat.le_of_ble_eq_true rfl) (by decide) (Nat.le_of_ble_eq_true rfl) (Nat.le_of_ble_eq_true rfl) dX4_init_7 dX4_init_9 rfl (fun r1 H locs h => ?_)
  have h : WK D A s.heap H locs ((q, .inr (3, [.ref r1, .null, .null, .null, .null, .int 0])) :: ([] ++ [zr cI r1 10])) := h
  refine lv_aload_n hC.1 hC.2.1 dX4_init_12 rfl (lv_at hl 0 rfl) ?_
  refine lv_bipush (v := 10) hC.1 hC.2.1 dX4_init_13 (by decide) ?_
  refine k_arr (n := 10) rfl hC hA hin h ff_X4_15 (Nat.le_of_ble_eq_true rfl) (by decide) (Nat.le_of_ble_eq_true rfl) (Nat.le_of_ble_eq_true rfl) dX4_init_15 dX4_init_17 rfl (fun r2 H locs h => ?_)
  have h : WK D A s.heap H locs ((q, .inr (3, [.ref r1, .ref r2, .null, .null, .null, .int 0])) :: ([] ++ [zr cI r1 10] ++ [zr cI r2 10])) := h
  refine lv_aload_n hC.1 hC.2.1 dX4_init_20 rfl (lv_at hl 0 rfl) ?_
  refine lv_bipush (v := 10) hC.1 hC.2.1 dX4_init_21 (by decide) ?_
  refine k_arr (n := 10) rfl hC hA hin h ff_X4_18 (Nat.le_of_ble_eq_true rfl) (by decide) (Nat.le_of_ble_eq_true rfl) (Nat.le_of_ble_eq_true rfl) dX4_init_23 dX4_init_25 rfl (fun r3 H locs h => ?_)
  have h : WK D A s.heap H locs ((q, .inr (3, [.ref r1, .ref r2, .ref r3, .null, .null, .int 0])) :: ([] ++ [zr cI r1 10] ++ [zr cI r2 10] ++ [zr cI r3 10])) := h
  refine lv_aload_n hC.1 hC.2.1 dX4_init_28 rfl (lv_at hl 0 rfl) ?_
  refine lv_bipush (v := 10) hC.1 hC.2.1 dX4_init_29 (by decide) ?_
  refine k_arr (n := 10) rfl hC hA hin h ff_X4_21 (Nat.le_of_ble_eq_true rfl) (by decide) (Nat.le_of_ble_eq_true rfl) (Nat.le_of_ble_eq_true rfl) dX4_init_31 dX4_init_33 rfl (fun r4 H locs h => ?_)
  have h : WK D A s.heap H locs ((q, .inr (3, [.ref r1, .ref r2, .ref r3, .ref r4, .null, .int 0])) :: ([] ++ [zr cI r1 10] ++ [zr cI r2 10] ++ [zr cI r3 10] ++ [zr cI r4 10])) := h
  refine lv_aload_n hC.1 hC.2.1 dX4_init_36 rfl (lv_at hl 0 rfl) ?_
  refine lv_bipush (v := 10) hC.1 hC.2.1 dX4_init_37 (by decide) ?_
  refine k_arr (n := 10) rfl hC hA hin h ff_X4_24 (Nat.le_of_ble_eq_true rfl) (by decide) (Nat.le_of_ble_eq_true rfl) (Nat.le_of_ble_eq_true rfl) dX4_init_39 dX4_init_41 rfl (fun r5 H locs h => ?_)
  have h : WK D A s.heap H locs ((q, .inr (3, [.ref r1, .ref r2, .ref r3, .ref r4, .ref r5, .int 0])) :: ([] ++ [zr cI r1 10] ++ [zr cI r2 10] ++ [zr cI r3 10] ++ [zr cI r4 10] ++ [zr cI r5 10])) := h
  refine lv_aload_n hC.1 hC.2.1 dX4_init_44 rfl (lv_at hl 0 rfl) ?_
  refine lv_iconst (v := 0) hC.1 hC.2.1 dX4_init_45 (by decide) ?_
  refine k_int hC h fp_X4_27 rfl rfl (Nat.le_of_ble_eq_true rfl) dX4_init_46 rfl (fun H locs h => ?_)
  have h : WK D A s.heap H locs ((q, .inr (3, [.ref r1, .ref r2, .ref r3, .ref r4, .ref r5, .int 0])) :: ([] ++ [zr cI r1 10] ++ [zr cI r2 10] ++ [zr cI r3 10] ++ [zr cI r4 10] ++ [zr cI r5 10])) := h
  refine W.widen (k := 5) (n := 50) (Nat.le_of_ble_eq_true rfl) (Nat.le_of_ble_eq_true rfl) ?_
  exact W.vret hC.1 hC.2.1 hr (fun t ht hW => ⟨⟨fun k => [r1, r2, r3, r4, r5].getD k 0, rfl, trivial, by rw [ht]; exact h.1, h.2.1⟩, h.2.2.F ht⟩) h.2.2.2.2 dX4_init_49
theorem im_X5 : IM yX5_init cX5_init 1 { frames := 1, cells := 3, slots := 168, locals := 12 } [] 4 [.null, .null, .null] pSheets 3 168 := by
  intro l D cI q sz
  unfold IQ2
  refine Met.ofW (cc := cX5_init) (maxL := 1) (ret := none) (by decide) rfl ?_
  intro p e s m args below meth c s₁ B hml hv
  obtain ⟨rfl, hsz, hP, hK, hD0, hN⟩ := hv
  have hts := atoms_spec (ws := Cond.code yX5_init cX5_init 1 none :: TBL) B.pre
  have hC : CK RX5 cX5_init 1 cI D p s m ([.ref q] : List Value).toArray c := ⟨B.exec, B.bytes, hml, findClass_of_methodNamed B.named, fun w hw => hts w (List.mem_cons_of_mem _ hw), hK, hN⟩
  have hin : meth.name = "<init>" := (name_of_methodNamed B.named B.method).1
  have hr := B.returns
  have hlocks := B.notSynchronized
  subst hsz
  have hD := hD0.self (sz := s.heap.size)
  generalize hAe : va_A [(q, .inr (4, [.null, .null, .null]))] s.heap.size = A at hD ⊢
  have hA : ∀ z : Nat, s.heap.size ≤ z → A z := fun z h => by rw [← hAe]; exact Or.inr h
  have h : WK D A s.heap s.heap [] [(q, .inr (4, [.null, .null, .null]))] := ⟨hP, hD, va_S.rf⟩
  have hl := lv_entry ([.ref q]) (n := 1) (Nat.le_of_ble_eq_true rfl)
  rw [lg_entry_eq]
  generalize (lg_sl ([.ref q]) ++ List.replicate (1 - (lg_sl ([.ref q])).length) Slot.unset).toArray = ls at hl ⊢
  have hl : lv_has ls 1 [(0, .ref q)] := hl
  refine lv_aload_n hC.1 hC.2.1 dX5_init_0 rfl (lv_at hl 0 rfl) ?_
  refine W.objInit hC.1 hC.2.1 hC.2.2.2.1 (hC.2.2.2.2.1 _ mlo_X5) (hC.2.2.2.2.1 _ oin) (hC.2.2.2.2.1 _ ocd) rfl (by rw [hml]; exact hl.1) rfl dX5_init_1 (Nat.le_of_ble_eq_true rfl) (Nat.le_of_ble_eq_true rfl) ?_
  refine W.eq (g2 := F0 m 4 ls []) rfl ?_
  refine lv_aload_n hC.1 hC.2.1 dX5_init_4 rfl (lv_at hl 0 rfl) ?_
  refine lv_iconst (v := 4) hC.1 hC.2.1 dX5_init_5 (by decide) ?_
  refine k_arr (n := 4) rfl hC hA hin h ff_X5_9 (Nat.le_of_ble_eq_true rfl) (by decide) (Nat.le_of_ble_eq_true rfl) (Nat.le_of_ble_eq_true rfl) dX5_init_6 dX5_init_8 rfl (fun r1 H locs h => ?_)
  have h : WK D A s.heap H locs ((q, .inr (4, [.ref r1, .null, .null])) :: ([] ++ [zr cI r1 4])) := h
  refine lv_aload_n hC.1 hC.2.1 dX5_init_11 rfl (lv_at hl 0 rfl) ?_
  refine lv_iconst (v := 4) hC.1 hC.2.1 dX5_init_12 (by decide) ?_
  refine k_arr (n := 4) rfl hC hA hin h ff_X5_13 (Nat.le_of_ble_eq_true rfl) (by decide) (Nat.le_of_ble_eq_true rfl) (Nat.le_of_ble_eq_true rfl) dX5_init_13 dX5_init_15 rfl (fun r2 H locs h => ?_)
  have h : WK D A s.heap H locs ((q, .inr (4, [.ref r1, .ref r2, .null])) :: ([] ++ [zr cI r1 4] ++ [zr cI r2 4])) := h
  refine lv_aload_n hC.1 hC.2.1 dX5_init_18 rfl (lv_at hl 0 rfl) ?_
  refine lv_sipush (v := 160) hC.1 hC.2.1 dX5_init_19 (by decide) ?_
  refine k_arr (n := 160) rfl hC hA hin h ff_X5_16 (Nat.le_of_ble_eq_true rfl) (by decide) (Nat.le_of_ble_eq_true rfl) (Nat.le_of_ble_eq_true rfl) dX5_init_22 dX5_init_24 rfl (fun r3 H locs h => ?_)
  have h : WK D A s.heap H locs ((q, .inr (4, [.ref r1, .ref r2, .ref r3])) :: ([] ++ [zr cI r1 4] ++ [zr cI r2 4] ++ [zr cI r3 160])) := h
  refine W.widen (k := 3) (n := 168) (Nat.le_of_ble_eq_true rfl) (Nat.le_of_ble_eq_true rfl) ?_
  exact W.vret hC.1 hC.2.1 hr (fun t ht hW => ⟨⟨fun k => [r1, r2, r3].getD k 0, rfl, trivial, by rw [ht]; exact h.1, h.2.1⟩, h.2.2.F ht⟩) h.2.2.2.2 dX5_init_27
theorem im_X6 : IM yX6_init cX6_init 1 { frames := 1, cells := 1, slots := 120, locals := 12 } [] 5 [.null, .int 0, .int 0, .int 0, .int 0, .int 0] pTape 1 120 := by
  intro l D cI q sz
  unfold IQ2
  refine Met.ofW (cc := cX6_init) (maxL := 1) (ret := none) (by decide) rfl ?_
  intro p e s m args below meth c s₁ B hml hv
  obtain ⟨rfl, hsz, hP, hK, hD0, hN⟩ := hv
  have hts := atoms_spec (ws := Cond.code yX6_init cX6_init 1 none :: TBL) B.pre
  have hC : CK RX6 cX6_init 1 cI D p s m ([.ref q] : List Value).toArray c := ⟨B.exec, B.bytes, hml, findClass_of_methodNamed B.named, fun w hw => hts w (List.mem_cons_of_mem _ hw), hK, hN⟩
  have hin : meth.name = "<init>" := (name_of_methodNamed B.named B.method).1
  have hr := B.returns
  have hlocks := B.notSynchronized
  subst hsz
  have hD := hD0.self (sz := s.heap.size)
  generalize hAe : va_A [(q, .inr (5, [.null, .int 0, .int 0, .int 0, .int 0, .int 0]))] s.heap.size = A at hD ⊢
  have hA : ∀ z : Nat, s.heap.size ≤ z → A z := fun z h => by rw [← hAe]; exact Or.inr h
  have h : WK D A s.heap s.heap [] [(q, .inr (5, [.null, .int 0, .int 0, .int 0, .int 0, .int 0]))] := ⟨hP, hD, va_S.rf⟩
  have hl := lv_entry ([.ref q]) (n := 1) (Nat.le_of_ble_eq_true rfl)
  rw [lg_entry_eq]
  generalize (lg_sl ([.ref q]) ++ List.replicate (1 - (lg_sl ([.ref q])).length) Slot.unset).toArray = ls at hl ⊢
  have hl : lv_has ls 1 [(0, .ref q)] := hl
  refine lv_aload_n hC.1 hC.2.1 dX6_init_0 rfl (lv_at hl 0 rfl) ?_
  refine W.objInit hC.1 hC.2.1 hC.2.2.2.1 (hC.2.2.2.2.1 _ mlo_X6) (hC.2.2.2.2.1 _ oin) (hC.2.2.2.2.1 _ ocd) rfl (by rw [hml]; exact hl.1) rfl dX6_init_1 (Nat.le_of_ble_eq_true rfl) (Nat.le_of_ble_eq_true rfl) ?_
  refine W.eq (g2 := F0 m 4 ls []) rfl ?_
  refine lv_aload_n hC.1 hC.2.1 dX6_init_4 rfl (lv_at hl 0 rfl) ?_
  refine lv_bipush (v := 120) hC.1 hC.2.1 dX6_init_5 (by decide) ?_
  refine k_arr (n := 120) rfl hC hA hin h ff_X6_9 (Nat.le_of_ble_eq_true rfl) (by decide) (Nat.le_of_ble_eq_true rfl) (Nat.le_of_ble_eq_true rfl) dX6_init_7 dX6_init_9 rfl (fun r1 H locs h => ?_)
  have h : WK D A s.heap H locs ((q, .inr (5, [.ref r1, .int 0, .int 0, .int 0, .int 0, .int 0])) :: ([] ++ [zr cI r1 120])) := h
  refine lv_aload_n hC.1 hC.2.1 dX6_init_12 rfl (lv_at hl 0 rfl) ?_
  refine lv_iconst (v := 0) hC.1 hC.2.1 dX6_init_13 (by decide) ?_
  refine k_int hC h fp_X6_13 rfl rfl (Nat.le_of_ble_eq_true rfl) dX6_init_14 rfl (fun H locs h => ?_)
  have h : WK D A s.heap H locs ((q, .inr (5, [.ref r1, .int 0, .int 0, .int 0, .int 0, .int 0])) :: ([] ++ [zr cI r1 120])) := h
  refine lv_aload_n hC.1 hC.2.1 dX6_init_17 rfl (lv_at hl 0 rfl) ?_
  refine lv_iconst (v := 0) hC.1 hC.2.1 dX6_init_18 (by decide) ?_
  refine k_int hC h fp_X6_17 rfl rfl (Nat.le_of_ble_eq_true rfl) dX6_init_19 rfl (fun H locs h => ?_)
  have h : WK D A s.heap H locs ((q, .inr (5, [.ref r1, .int 0, .int 0, .int 0, .int 0, .int 0])) :: ([] ++ [zr cI r1 120])) := h
  refine lv_aload_n hC.1 hC.2.1 dX6_init_22 rfl (lv_at hl 0 rfl) ?_
  refine lv_iconst (v := 0) hC.1 hC.2.1 dX6_init_23 (by decide) ?_
  refine k_int hC h fp_X6_20 rfl rfl (Nat.le_of_ble_eq_true rfl) dX6_init_24 rfl (fun H locs h => ?_)
  have h : WK D A s.heap H locs ((q, .inr (5, [.ref r1, .int 0, .int 0, .int 0, .int 0, .int 0])) :: ([] ++ [zr cI r1 120])) := h
  refine lv_aload_n hC.1 hC.2.1 dX6_init_27 rfl (lv_at hl 0 rfl) ?_
  refine lv_iconst (v := 0) hC.1 hC.2.1 dX6_init_28 (by decide) ?_
  refine k_int hC h fp_X6_23 rfl rfl (Nat.le_of_ble_eq_true rfl) dX6_init_29 rfl (fun H locs h => ?_)
  have h : WK D A s.heap H locs ((q, .inr (5, [.ref r1, .int 0, .int 0, .int 0, .int 0, .int 0])) :: ([] ++ [zr cI r1 120])) := h
  refine lv_aload_n hC.1 hC.2.1 dX6_init_32 rfl (lv_at hl 0 rfl) ?_
  refine lv_iconst (v := 0) hC.1 hC.2.1 dX6_init_33 (by decide) ?_
  refine k_int hC h fp_X6_26 rfl rfl (Nat.le_of_ble_eq_true rfl) dX6_init_34 rfl (fun H locs h => ?_)
  have h : WK D A s.heap H locs ((q, .inr (5, [.ref r1, .int 0, .int 0, .int 0, .int 0, .int 0])) :: ([] ++ [zr cI r1 120])) := h
  refine W.widen (k := 1) (n := 120) (Nat.le_of_ble_eq_true rfl) (Nat.le_of_ble_eq_true rfl) ?_
  exact W.vret hC.1 hC.2.1 hr (fun t ht hW => ⟨⟨fun k => [r1].getD k 0, rfl, trivial, by rw [ht]; exact h.1, h.2.1⟩, h.2.2.F ht⟩) h.2.2.2.2 dX6_init_37
theorem im_X7 (t v : Nat) : IM yX7_init cX7_init 3 { frames := 1, cells := 0, slots := 0, locals := 12 } [.ref t, .ref v] 6 [.null, .null] (pReader t v) 0 0 := by
  intro l D cI q sz
  unfold IQ2
  refine Met.ofW (cc := cX7_init) (maxL := 3) (ret := none) (by decide) rfl ?_
  intro p e s m args below meth c s₁ B hml hv
  obtain ⟨rfl, hsz, hP, hK, hD0, hN⟩ := hv
  have hts := atoms_spec (ws := Cond.code yX7_init cX7_init 3 none :: TBL) B.pre
  have hC : CK RX7 cX7_init 3 cI D p s m ([.ref q, .ref t, .ref v] : List Value).toArray c := ⟨B.exec, B.bytes, hml, findClass_of_methodNamed B.named, fun w hw => hts w (List.mem_cons_of_mem _ hw), hK, hN⟩
  have hin : meth.name = "<init>" := (name_of_methodNamed B.named B.method).1
  have hr := B.returns
  have hlocks := B.notSynchronized
  subst hsz
  have hD := hD0.self (sz := s.heap.size)
  generalize hAe : va_A [(q, .inr (6, [.null, .null]))] s.heap.size = A at hD ⊢
  have hA : ∀ z : Nat, s.heap.size ≤ z → A z := fun z h => by rw [← hAe]; exact Or.inr h
  have h : WK D A s.heap s.heap [] [(q, .inr (6, [.null, .null]))] := ⟨hP, hD, va_S.rf⟩
  have hl := lv_entry ([.ref q, .ref t, .ref v]) (n := 3) (Nat.le_of_ble_eq_true rfl)
  rw [lg_entry_eq]
  generalize (lg_sl ([.ref q, .ref t, .ref v]) ++ List.replicate (3 - (lg_sl ([.ref q, .ref t, .ref v])).length) Slot.unset).toArray = ls at hl ⊢
  have hl : lv_has ls 3 [(0, .ref q), (1, .ref t), (2, .ref v)] := hl
  refine lv_aload_n hC.1 hC.2.1 dX7_init_0 rfl (lv_at hl 0 rfl) ?_
  refine W.objInit hC.1 hC.2.1 hC.2.2.2.1 (hC.2.2.2.2.1 _ mlo_X7) (hC.2.2.2.2.1 _ oin) (hC.2.2.2.2.1 _ ocd) rfl (by rw [hml]; exact hl.1) rfl dX7_init_1 (Nat.le_of_ble_eq_true rfl) (Nat.le_of_ble_eq_true rfl) ?_
  refine W.eq (g2 := F0 m 4 ls []) rfl ?_
  refine lv_aload_n hC.1 hC.2.1 dX7_init_4 rfl (lv_at hl 0 rfl) ?_
  refine lv_aload_n hC.1 hC.2.1 dX7_init_5 rfl (lv_at hl 1 rfl) ?_
  refine k_ref hC hin h ff_X7_9 (Nat.le_of_ble_eq_true rfl) dX7_init_6 rfl (fun H locs h => ?_)
  have h : WK D A s.heap H locs ((q, .inr (6, [.ref t, .null])) :: ([])) := h
  refine lv_aload_n hC.1 hC.2.1 dX7_init_9 rfl (lv_at hl 0 rfl) ?_
  refine lv_aload_n hC.1 hC.2.1 dX7_init_10 rfl (lv_at hl 2 rfl) ?_
  refine k_ref hC hin h ff_X7_15 (Nat.le_of_ble_eq_true rfl) dX7_init_11 rfl (fun H locs h => ?_)
  have h : WK D A s.heap H locs ((q, .inr (6, [.ref t, .ref v])) :: ([])) := h
  refine W.widen (k := 0) (n := 0) (Nat.le_of_ble_eq_true rfl) (Nat.le_of_ble_eq_true rfl) ?_
  exact W.vret hC.1 hC.2.1 hr (fun t ht hW => ⟨⟨fun k => [].getD k 0, rfl, trivial, by rw [ht]; exact h.1, h.2.1⟩, h.2.2.F ht⟩) h.2.2.2.2 dX7_init_14
theorem lo_X2 {p : Program} {l : Launch} {e : Env} {R : Room} {s : State} {m : MethodId} {args : Array Value} {below : List Frame} {meth : Method} {c : Code} {cells slots : Nat} {Q : State → Prop} {cI : ClassId} {D : va_G} {A : Nat → Prop} {q r : Nat} {fs : List Value} (hC : CK RX2 cX2_init 2 cI D p s m args c) (hv : fs[3]? = some (.ref r)) (Wv : Nat → va_W) (z : Nat) (h1 : ∀ i, (Wv i)[z]? = some (r, .inl (cI, 10, .inl (fSp i)))) (h2 : ∀ i, (Wv i).set z (r, .inl (cI, 10, .inl (fSp (i + 1)))) = Wv (i + 1)) (kk : ∀ (H1 : Heap) (locs1 : List Loc) (ls1 : Array Slot), WK D A s.heap H1 locs1 ((q, .inr (2, fs)) :: Wv 10) → W p l e R s m args below meth c H1 locs1 cells slots Q (F0 m 118 ls1 [])) : ∀ (n i : Nat) (H : Heap) (locs : List Loc) (ls : Array Slot), i + n = 10 → lv_has ls 2 [(1, .int (nI i)), (0, .ref q)] → WK D A s.heap H locs ((q, .inr (2, fs)) :: Wv i) → W p l e R s m args below meth c H locs cells slots Q (F0 m 99 ls []) := by
  intro n
  induction n with
  | zero =>
    intro i H locs ls hi hl h
    refine lv_iload_n hC.1 hC.2.1 dX2_init_99 rfl (lv_at hl 0 rfl) ?_
    refine lv_bipush (v := 10) hC.1 hC.2.1 dX2_init_100 (by decide) ?_
    refine lv_icmp_ge (tgt := 118) hC.1 hC.2.1 dX2_init_102 rfl (fun _ => ?_) (fun z => absurd ((nI_leI (a := 10) (b := i) (by omega) (by omega)).mpr (by omega)) z)
    have e : i = 10 := by omega
    subst e
    exact kk _ _ _ h
  | succ n ih =>
    intro i H locs ls hi hl h
    refine lv_iload_n hC.1 hC.2.1 dX2_init_99 rfl (lv_at hl 0 rfl) ?_
    refine lv_bipush (v := 10) hC.1 hC.2.1 dX2_init_100 (by decide) ?_
    refine lv_icmp_ge (tgt := 118) hC.1 hC.2.1 dX2_init_102 rfl (fun z => absurd ((nI_leI (a := 10) (b := i) (by omega) (by omega)).mp z) (by omega)) (fun _ => ?_)
    refine lv_aload_n hC.1 hC.2.1 dX2_init_105 rfl (lv_at hl 1 rfl) ?_
    refine k_get hC h fg_X2_29 hv dX2_init_106 rfl ?_
    refine lv_iload_n hC.1 hC.2.1 dX2_init_109 rfl (lv_at hl 0 rfl) ?_
    refine lv_iconst (v := -1) hC.1 hC.2.1 dX2_init_110 (by decide) ?_
    refine k_ias hC h (h1 i) rfl (by omega) (by decide) dX2_init_111 rfl (fun H1 locs1 h => ?_)
    have ef : upd (fSp i) i (-1) = fSp (i + 1) := by
      funext k
      simp only [upd, fSp]
      by_cases a : k = i
      · rw [if_pos a, if_pos (by omega)]
      · rw [if_neg a]
        by_cases b : k < i
        · rw [if_pos b, if_pos (by omega)]
        · rw [if_neg b, if_neg (by omega)]
    rw [ef, h2] at h
    refine lv_iinc (k := 0) (v := nI (i + 1)) (lv' := [(1, .int (nI (i + 1))), (0, .ref q)]) hC.1 hC.2.1 dX2_init_112 hl rfl (nI_add i 1) (by decide) rfl (fun ls1 hl1 => ?_)
    refine lv_goto (tgt := 99) hC.1 hC.2.1 dX2_init_115 rfl ?_
    exact ih (i + 1) H1 locs1 ls1 (by omega) hl1 h
theorem im_X2 : IM yX2_init cX2_init 2 { frames := 2, cells := 12, slots := 113, locals := 32 } [] 2 [.null, .null, .null, .null, .int 0, .int 0, .int 0, .int 0, .int 0, .int 0, .int 0, .int 0, .int 0, .int 0, .int 0] pEv 12 113 := by
  intro l D cI q sz
  unfold IQ2
  refine Met.ofW (cc := cX2_init) (maxL := 2) (ret := none) (by decide) rfl ?_
  intro p e s m args below meth c s₁ B hml hv
  obtain ⟨rfl, hsz, hP, hK, hD0, hN⟩ := hv
  have hts := atoms_spec (ws := Cond.code yX2_init cX2_init 2 none :: TBL) B.pre
  have hC : CK RX2 cX2_init 2 cI D p s m ([.ref q] : List Value).toArray c := ⟨B.exec, B.bytes, hml, findClass_of_methodNamed B.named, fun w hw => hts w (List.mem_cons_of_mem _ hw), hK, hN⟩
  have hin : meth.name = "<init>" := (name_of_methodNamed B.named B.method).1
  have hr := B.returns
  have hlocks := B.notSynchronized
  subst hsz
  have hD := hD0.self (sz := s.heap.size)
  generalize hAe : va_A [(q, .inr (2, [.null, .null, .null, .null, .int 0, .int 0, .int 0, .int 0, .int 0, .int 0, .int 0, .int 0, .int 0, .int 0, .int 0]))] s.heap.size = A at hD ⊢
  have hA : ∀ z : Nat, s.heap.size ≤ z → A z := fun z h => by rw [← hAe]; exact Or.inr h
  have h : WK D A s.heap s.heap [] [(q, .inr (2, [.null, .null, .null, .null, .int 0, .int 0, .int 0, .int 0, .int 0, .int 0, .int 0, .int 0, .int 0, .int 0, .int 0]))] := ⟨hP, hD, va_S.rf⟩
  have hl := lv_entry ([.ref q]) (n := 2) (Nat.le_of_ble_eq_true rfl)
  rw [lg_entry_eq]
  generalize (lg_sl ([.ref q]) ++ List.replicate (2 - (lg_sl ([.ref q])).length) Slot.unset).toArray = ls at hl ⊢
  have hl : lv_has ls 2 [(0, .ref q)] := hl
  refine lv_aload_n hC.1 hC.2.1 dX2_init_0 rfl (lv_at hl 0 rfl) ?_
  refine W.objInit hC.1 hC.2.1 hC.2.2.2.1 (hC.2.2.2.2.1 _ mlo_X2) (hC.2.2.2.2.1 _ oin) (hC.2.2.2.2.1 _ ocd) rfl (by rw [hml]; exact hl.1) rfl dX2_init_1 (Nat.le_of_ble_eq_true rfl) (Nat.le_of_ble_eq_true rfl) ?_
  refine W.eq (g2 := F0 m 4 ls []) rfl ?_
  refine lv_aload_n hC.1 hC.2.1 dX2_init_4 rfl (lv_at hl 0 rfl) ?_
  refine k_new (ci2 := 3) (fs2 := [.null, .null, .null, .null, .null, .int 0]) (ty := tyX4) hC hA h cls_X4 tyX4_ok clk_X2_9 ist_X4 ini_X4 (fun j hj => by rcases (show j = 0 ∨ j = 1 ∨ j = 2 ∨ j = 3 ∨ j = 4 ∨ j = 5 by omega) with rfl | rfl | rfl | rfl | rfl | rfl <;> rfl) (Nat.le_of_ble_eq_true rfl) (Nat.le_of_ble_eq_true rfl) dX2_init_5 dX2_init_8 rfl (fun r1 H h => ?_)
  refine k_call (host := (some RX8)) (As := []) (rest := [.ref r1, .ref q]) hC hA hl.1 h (im_X4) rfl rfl ⟨Nat.le_of_ble_eq_true rfl, Nat.le_of_ble_eq_true rfl⟩ icd_X4 ini_X4 iin_X4 rfl idd_X4 rfl hC.2.2.2.2.2.2.1 rfl (Nat.le_of_ble_eq_true rfl) dX2_init_9 ⟨Nat.le_of_ble_eq_true rfl, Nat.le_of_ble_eq_true rfl⟩ rfl (fun a2 H locs h => ?_)
  have h : WK D A s.heap H locs ((q, .inr (2, [.null, .null, .null, .null, .int 0, .int 0, .int 0, .int 0, .int 0, .int 0, .int 0, .int 0, .int 0, .int 0, .int 0])) :: ([] ++ pNuts r1 a2 cI)) := h
  refine k_ref hC hin h ff_X2_12 (Nat.le_of_ble_eq_true rfl) dX2_init_12 rfl (fun H locs h => ?_)
  have h : WK D A s.heap H locs ((q, .inr (2, [.ref r1, .null, .null, .null, .int 0, .int 0, .int 0, .int 0, .int 0, .int 0, .int 0, .int 0, .int 0, .int 0, .int 0])) :: ([] ++ pNuts r1 a2 cI)) := h
  refine lv_aload_n hC.1 hC.2.1 dX2_init_15 rfl (lv_at hl 0 rfl) ?_
  refine k_new (ci2 := 1) (fs2 := [.null, .null, .null, .int 0]) (ty := tyX1) hC hA h cls_X1 tyX1_ok clk_X2_18 ist_X1 ini_X1 (fun j hj => by rcases (show j = 0 ∨ j = 1 ∨ j = 2 ∨ j = 3 by omega) with rfl | rfl | rfl | rfl <;> rfl) (Nat.le_of_ble_eq_true rfl) (Nat.le_of_ble_eq_true rfl) dX2_init_16 dX2_init_19 rfl (fun r3 H h => ?_)
  refine k_call (host := (some RX8)) (As := []) (rest := [.ref r3, .ref q]) hC hA hl.1 h (im_X1) rfl rfl ⟨Nat.le_of_ble_eq_true rfl, Nat.le_of_ble_eq_true rfl⟩ icd_X1 ini_X1 iin_X1 rfl idd_X1 rfl hC.2.2.2.2.2.2.2.1 rfl (Nat.le_of_ble_eq_true rfl) dX2_init_20 ⟨Nat.le_of_ble_eq_true rfl, Nat.le_of_ble_eq_true rfl⟩ rfl (fun a4 H locs h => ?_)
  have h : WK D A s.heap H locs ((q, .inr (2, [.ref r1, .null, .null, .null, .int 0, .int 0, .int 0, .int 0, .int 0, .int 0, .int 0, .int 0, .int 0, .int 0, .int 0])) :: ([] ++ pNuts r1 a2 cI ++ pCrowds r3 a4 cI)) := h
  refine k_ref hC hin h ff_X2_21 (Nat.le_of_ble_eq_true rfl) dX2_init_23 rfl (fun H locs h => ?_)
  have h : WK D A s.heap H locs ((q, .inr (2, [.ref r1, .ref r3, .null, .null, .int 0, .int 0, .int 0, .int 0, .int 0, .int 0, .int 0, .int 0, .int 0, .int 0, .int 0])) :: ([] ++ pNuts r1 a2 cI ++ pCrowds r3 a4 cI)) := h
  refine lv_aload_n hC.1 hC.2.1 dX2_init_26 rfl (lv_at hl 0 rfl) ?_
  refine lv_bipush (v := 7) hC.1 hC.2.1 dX2_init_27 (by decide) ?_
  refine k_arr (n := 7) rfl hC hA hin h ff_X2_25 (Nat.le_of_ble_eq_true rfl) (by decide) (Nat.le_of_ble_eq_true rfl) (Nat.le_of_ble_eq_true rfl) dX2_init_29 dX2_init_31 rfl (fun r5 H locs h => ?_)
  have h : WK D A s.heap H locs ((q, .inr (2, [.ref r1, .ref r3, .ref r5, .null, .int 0, .int 0, .int 0, .int 0, .int 0, .int 0, .int 0, .int 0, .int 0, .int 0, .int 0])) :: ([] ++ pNuts r1 a2 cI ++ pCrowds r3 a4 cI ++ [zr cI r5 7])) := h
  refine lv_aload_n hC.1 hC.2.1 dX2_init_34 rfl (lv_at hl 0 rfl) ?_
  refine lv_bipush (v := 10) hC.1 hC.2.1 dX2_init_35 (by decide) ?_
  refine k_arr (n := 10) rfl hC hA hin h ff_X2_29 (Nat.le_of_ble_eq_true rfl) (by decide) (Nat.le_of_ble_eq_true rfl) (Nat.le_of_ble_eq_true rfl) dX2_init_37 dX2_init_39 rfl (fun r6 H locs h => ?_)
  have h : WK D A s.heap H locs ((q, .inr (2, [.ref r1, .ref r3, .ref r5, .ref r6, .int 0, .int 0, .int 0, .int 0, .int 0, .int 0, .int 0, .int 0, .int 0, .int 0, .int 0])) :: ([] ++ pNuts r1 a2 cI ++ pCrowds r3 a4 cI ++ [zr cI r5 7] ++ [zr cI r6 10])) := h
  refine lv_aload_n hC.1 hC.2.1 dX2_init_42 rfl (lv_at hl 0 rfl) ?_
  refine lv_iconst (v := 5) hC.1 hC.2.1 dX2_init_43 (by decide) ?_
  refine k_int hC h fp_X2_32 rfl rfl (Nat.le_of_ble_eq_true rfl) dX2_init_44 rfl (fun H locs h => ?_)
  have h : WK D A s.heap H locs ((q, .inr (2, [.ref r1, .ref r3, .ref r5, .ref r6, .int 5, .int 0, .int 0, .int 0, .int 0, .int 0, .int 0, .int 0, .int 0, .int 0, .int 0])) :: ([] ++ pNuts r1 a2 cI ++ pCrowds r3 a4 cI ++ [zr cI r5 7] ++ [zr cI r6 10])) := h
  refine lv_aload_n hC.1 hC.2.1 dX2_init_47 rfl (lv_at hl 0 rfl) ?_
  refine lv_iconst (v := 4) hC.1 hC.2.1 dX2_init_48 (by decide) ?_
  refine k_int hC h fp_X2_36 rfl rfl (Nat.le_of_ble_eq_true rfl) dX2_init_49 rfl (fun H locs h => ?_)
  have h : WK D A s.heap H locs ((q, .inr (2, [.ref r1, .ref r3, .ref r5, .ref r6, .int 5, .int 4, .int 0, .int 0, .int 0, .int 0, .int 0, .int 0, .int 0, .int 0, .int 0])) :: ([] ++ pNuts r1 a2 cI ++ pCrowds r3 a4 cI ++ [zr cI r5 7] ++ [zr cI r6 10])) := h
  refine lv_aload_n hC.1 hC.2.1 dX2_init_52 rfl (lv_at hl 0 rfl) ?_
  refine lv_iconst (v := 5) hC.1 hC.2.1 dX2_init_53 (by decide) ?_
  refine k_int hC h fp_X2_39 rfl rfl (Nat.le_of_ble_eq_true rfl) dX2_init_54 rfl (fun H locs h => ?_)
  have h : WK D A s.heap H locs ((q, .inr (2, [.ref r1, .ref r3, .ref r5, .ref r6, .int 5, .int 4, .int 5, .int 0, .int 0, .int 0, .int 0, .int 0, .int 0, .int 0, .int 0])) :: ([] ++ pNuts r1 a2 cI ++ pCrowds r3 a4 cI ++ [zr cI r5 7] ++ [zr cI r6 10])) := h
  refine lv_aload_n hC.1 hC.2.1 dX2_init_57 rfl (lv_at hl 0 rfl) ?_
  refine lv_iconst (v := 0) hC.1 hC.2.1 dX2_init_58 (by decide) ?_
  refine k_int hC h fp_X2_42 rfl rfl (Nat.le_of_ble_eq_true rfl) dX2_init_59 rfl (fun H locs h => ?_)
  have h : WK D A s.heap H locs ((q, .inr (2, [.ref r1, .ref r3, .ref r5, .ref r6, .int 5, .int 4, .int 5, .int 0, .int 0, .int 0, .int 0, .int 0, .int 0, .int 0, .int 0])) :: ([] ++ pNuts r1 a2 cI ++ pCrowds r3 a4 cI ++ [zr cI r5 7] ++ [zr cI r6 10])) := h
  refine lv_aload_n hC.1 hC.2.1 dX2_init_62 rfl (lv_at hl 0 rfl) ?_
  refine lv_iconst (v := 0) hC.1 hC.2.1 dX2_init_63 (by decide) ?_
  refine k_int hC h fp_X2_45 rfl rfl (Nat.le_of_ble_eq_true rfl) dX2_init_64 rfl (fun H locs h => ?_)
  have h : WK D A s.heap H locs ((q, .inr (2, [.ref r1, .ref r3, .ref r5, .ref r6, .int 5, .int 4, .int 5, .int 0, .int 0, .int 0, .int 0, .int 0, .int 0, .int 0, .int 0])) :: ([] ++ pNuts r1 a2 cI ++ pCrowds r3 a4 cI ++ [zr cI r5 7] ++ [zr cI r6 10])) := h
  refine lv_aload_n hC.1 hC.2.1 dX2_init_67 rfl (lv_at hl 0 rfl) ?_
  refine lv_iconst (v := 0) hC.1 hC.2.1 dX2_init_68 (by decide) ?_
  refine k_int hC h fp_X2_48 rfl rfl (Nat.le_of_ble_eq_true rfl) dX2_init_69 rfl (fun H locs h => ?_)
  have h : WK D A s.heap H locs ((q, .inr (2, [.ref r1, .ref r3, .ref r5, .ref r6, .int 5, .int 4, .int 5, .int 0, .int 0, .int 0, .int 0, .int 0, .int 0, .int 0, .int 0])) :: ([] ++ pNuts r1 a2 cI ++ pCrowds r3 a4 cI ++ [zr cI r5 7] ++ [zr cI r6 10])) := h
  refine lv_aload_n hC.1 hC.2.1 dX2_init_72 rfl (lv_at hl 0 rfl) ?_
  refine lv_iconst (v := 0) hC.1 hC.2.1 dX2_init_73 (by decide) ?_
  refine k_int hC h fp_X2_51 rfl rfl (Nat.le_of_ble_eq_true rfl) dX2_init_74 rfl (fun H locs h => ?_)
  have h : WK D A s.heap H locs ((q, .inr (2, [.ref r1, .ref r3, .ref r5, .ref r6, .int 5, .int 4, .int 5, .int 0, .int 0, .int 0, .int 0, .int 0, .int 0, .int 0, .int 0])) :: ([] ++ pNuts r1 a2 cI ++ pCrowds r3 a4 cI ++ [zr cI r5 7] ++ [zr cI r6 10])) := h
  refine lv_aload_n hC.1 hC.2.1 dX2_init_77 rfl (lv_at hl 0 rfl) ?_
  refine lv_iconst (v := 0) hC.1 hC.2.1 dX2_init_78 (by decide) ?_
  refine k_int hC h fp_X2_54 rfl rfl (Nat.le_of_ble_eq_true rfl) dX2_init_79 rfl (fun H locs h => ?_)
  have h : WK D A s.heap H locs ((q, .inr (2, [.ref r1, .ref r3, .ref r5, .ref r6, .int 5, .int 4, .int 5, .int 0, .int 0, .int 0, .int 0, .int 0, .int 0, .int 0, .int 0])) :: ([] ++ pNuts r1 a2 cI ++ pCrowds r3 a4 cI ++ [zr cI r5 7] ++ [zr cI r6 10])) := h
  refine lv_aload_n hC.1 hC.2.1 dX2_init_82 rfl (lv_at hl 0 rfl) ?_
  refine lv_iconst (v := 0) hC.1 hC.2.1 dX2_init_83 (by decide) ?_
  refine k_int hC h fp_X2_57 rfl rfl (Nat.le_of_ble_eq_true rfl) dX2_init_84 rfl (fun H locs h => ?_)
  have h : WK D A s.heap H locs ((q, .inr (2, [.ref r1, .ref r3, .ref r5, .ref r6, .int 5, .int 4, .int 5, .int 0, .int 0, .int 0, .int 0, .int 0, .int 0, .int 0, .int 0])) :: ([] ++ pNuts r1 a2 cI ++ pCrowds r3 a4 cI ++ [zr cI r5 7] ++ [zr cI r6 10])) := h
  refine lv_aload_n hC.1 hC.2.1 dX2_init_87 rfl (lv_at hl 0 rfl) ?_
  refine lv_iconst (v := 0) hC.1 hC.2.1 dX2_init_88 (by decide) ?_
  refine k_int hC h fp_X2_60 rfl rfl (Nat.le_of_ble_eq_true rfl) dX2_init_89 rfl (fun H locs h => ?_)
  have h : WK D A s.heap H locs ((q, .inr (2, [.ref r1, .ref r3, .ref r5, .ref r6, .int 5, .int 4, .int 5, .int 0, .int 0, .int 0, .int 0, .int 0, .int 0, .int 0, .int 0])) :: ([] ++ pNuts r1 a2 cI ++ pCrowds r3 a4 cI ++ [zr cI r5 7] ++ [zr cI r6 10])) := h
  refine lv_aload_n hC.1 hC.2.1 dX2_init_92 rfl (lv_at hl 0 rfl) ?_
  refine lv_iconst (v := 1) hC.1 hC.2.1 dX2_init_93 (by decide) ?_
  refine k_int hC h fp_X2_63 rfl rfl (Nat.le_of_ble_eq_true rfl) dX2_init_94 rfl (fun H locs h => ?_)
  have h : WK D A s.heap H locs ((q, .inr (2, [.ref r1, .ref r3, .ref r5, .ref r6, .int 5, .int 4, .int 5, .int 0, .int 0, .int 0, .int 0, .int 0, .int 0, .int 0, .int 1])) :: ([] ++ pNuts r1 a2 cI ++ pCrowds r3 a4 cI ++ [zr cI r5 7] ++ [zr cI r6 10])) := h
  refine lv_iconst (v := 0) hC.1 hC.2.1 dX2_init_97 (by decide) ?_
  refine lv_istore_n (lv' := [(1, .int 0), (0, .ref q)]) hC.1 hC.2.1 dX2_init_98 rfl hl (by decide) rfl (fun ls hl => ?_)
  refine lo_X2 (A := A) (r := r6) (fs := [.ref r1, .ref r3, .ref r5, .ref r6, .int 5, .int 4, .int 5, .int 0, .int 0, .int 0, .int 0, .int 0, .int 0, .int 0, .int 1]) hC rfl (fun i => [] ++ pNuts r1 a2 cI ++ pCrowds r3 a4 cI ++ [zr cI r5 7] ++ [(r6, .inl (cI, 10, .inl (fSp i)))]) 11 (fun _ => rfl) (fun _ => rfl) (fun H locs ls h => ?_) 10 0 H locs ls (by decide) hl ?_
  · -- behind the loop
    refine W.widen (k := 12) (n := 113) (Nat.le_of_ble_eq_true rfl) (Nat.le_of_ble_eq_true rfl) ?_
    exact W.vret hC.1 hC.2.1 hr (fun t ht hW => ⟨⟨fun k => [r1, (a2 0), (a2 1), (a2 2), (a2 3), (a2 4), r3, (a4 0), (a4 1), (a4 2), r5, r6].getD k 0, rfl, trivial, by rw [ht]; exact h.1, h.2.1⟩, h.2.2.F ht⟩) h.2.2.2.2 dX2_init_118
  · have e0 : fSp 0 = fun _ => 0 := by funext k; simp [fSp]
    rw [e0]
    exact h
theorem lo_X9 {p : Program} {l : Launch} {e : Env} {R : Room} {s : State} {m : MethodId} {args : Array Value} {below : List Frame} {meth : Method} {c : Code} {cells slots : Nat} {Q : State → Prop} {cI : ClassId} {D : va_G} {A : Nat → Prop} {q r : Nat} {fs : List Value} {Wd : va_W} (hC : CK RX9 cX9_init 2 cI D p s m args c) (hv : fs[0]? = some (.ref r)) (kk : ∀ (H1 : Heap) (locs1 : List Loc) (ls1 : Array Slot), WK D A s.heap H1 locs1 ((q, .inr (8, fs)) :: (r, .inl (cI, 116, .inl (fM 10))) :: Wd) → W p l e R s m args below meth c H1 locs1 cells slots Q (F0 m 128 ls1 [])) : ∀ (n i : Nat) (H : Heap) (locs : List Loc) (ls : Array Slot), i + n = 10 → lv_has ls 2 [(1, .int (nI i)), (0, .ref q)] → WK D A s.heap H locs ((q, .inr (8, fs)) :: (r, .inl (cI, 116, .inl (fM i))) :: Wd) → W p l e R s m args below meth c H locs cells slots Q (F0 m 106 ls []) := by
  intro n
  induction n with
  | zero =>
    intro i H locs ls hi hl h
    refine lv_iload_n hC.1 hC.2.1 dX9_init_106 rfl (lv_at hl 0 rfl) ?_
    refine lv_bipush (v := 10) hC.1 hC.2.1 dX9_init_107 (by decide) ?_
    refine lv_icmp_ge (tgt := 128) hC.1 hC.2.1 dX9_init_109 rfl (fun _ => ?_) (fun z => absurd ((nI_leI (a := 10) (b := i) (by omega) (by omega)).mpr (by omega)) z)
    have e : i = 10 := by omega
    subst e
    exact kk _ _ _ h
  | succ n ih =>
    intro i H locs ls hi hl h
    refine lv_iload_n hC.1 hC.2.1 dX9_init_106 rfl (lv_at hl 0 rfl) ?_
    refine lv_bipush (v := 10) hC.1 hC.2.1 dX9_init_107 (by decide) ?_
    refine lv_icmp_ge (tgt := 128) hC.1 hC.2.1 dX9_init_109 rfl (fun z => absurd ((nI_leI (a := 10) (b := i) (by omega) (by omega)).mp z) (by omega)) (fun _ => ?_)
    refine lv_aload_n hC.1 hC.2.1 dX9_init_112 rfl (lv_at hl 1 rfl) ?_
    refine k_get hC h fg_X9_7 hv dX9_init_113 rfl ?_
    refine lv_bipush (v := 106) hC.1 hC.2.1 dX9_init_116 (by decide) ?_
    refine lv_iload_n hC.1 hC.2.1 dX9_init_118 rfl (lv_at hl 0 rfl) ?_
    refine lv_iadd hC.1 hC.2.1 dX9_init_119 ?_
    refine lv_iconst (v := -1) hC.1 hC.2.1 dX9_init_120 (by decide) ?_
    refine k_ias (z := 0) (i := 106 + i) hC h rfl (nI_add 106 i) (by omega) (by decide) dX9_init_121 rfl (fun H1 locs1 h => ?_)
    have ef : upd (fM i) (106 + i) (-1) = fM (i + 1) := by
      funext k
      simp only [upd, fM]
      by_cases a : k = 106 + i
      · rw [if_pos a, if_pos (by omega)]
      · rw [if_neg a]
        by_cases b : 106 ≤ k ∧ k < 106 + i
        · rw [if_pos b, if_pos (show 106 ≤ k ∧ k < 106 + (i + 1) by omega)]
        · rw [if_neg b, if_neg (show ¬ (106 ≤ k ∧ k < 106 + (i + 1)) by omega)]
    rw [ef] at h
    refine lv_iinc (k := 0) (v := nI (i + 1)) (lv' := [(1, .int (nI (i + 1))), (0, .ref q)]) hC.1 hC.2.1 dX9_init_122 hl rfl (nI_add i 1) (by decide) rfl (fun ls1 hl1 => ?_)
    refine lv_goto (tgt := 106) hC.1 hC.2.1 dX9_init_125 rfl ?_
    exact ih (i + 1) H1 locs1 ls1 (by omega) hl1 h
theorem im_X9 : IM yX9_init cX9_init 2 { frames := 1, cells := 9, slots := 683, locals := 12 } [] 8 [.null, .null, .null, .null, .int 0, .null, .int 0, .int 0, .int 0, .int 0, .int 0, .null, .null, .null, .null] pModel 9 683 := by
  intro l D cI q sz
  unfold IQ2
  refine Met.ofW (cc := cX9_init) (maxL := 2) (ret := none) (by decide) rfl ?_
  intro p e s m args below meth c s₁ B hml hv
  obtain ⟨rfl, hsz, hP, hK, hD0, hN⟩ := hv
  have hts := atoms_spec (ws := Cond.code yX9_init cX9_init 2 none :: TBL) B.pre
  have hC : CK RX9 cX9_init 2 cI D p s m ([.ref q] : List Value).toArray c := ⟨B.exec, B.bytes, hml, findClass_of_methodNamed B.named, fun w hw => hts w (List.mem_cons_of_mem _ hw), hK, hN⟩
  have hin : meth.name = "<init>" := (name_of_methodNamed B.named B.method).1
  have hr := B.returns
  have hlocks := B.notSynchronized
  subst hsz
  have hD := hD0.self (sz := s.heap.size)
  generalize hAe : va_A [(q, .inr (8, [.null, .null, .null, .null, .int 0, .null, .int 0, .int 0, .int 0, .int 0, .int 0, .null, .null, .null, .null]))] s.heap.size = A at hD ⊢
  have hA : ∀ z : Nat, s.heap.size ≤ z → A z := fun z h => by rw [← hAe]; exact Or.inr h
  have h : WK D A s.heap s.heap [] [(q, .inr (8, [.null, .null, .null, .null, .int 0, .null, .int 0, .int 0, .int 0, .int 0, .int 0, .null, .null, .null, .null]))] := ⟨hP, hD, va_S.rf⟩
  have hl := lv_entry ([.ref q]) (n := 2) (Nat.le_of_ble_eq_true rfl)
  rw [lg_entry_eq]
  generalize (lg_sl ([.ref q]) ++ List.replicate (2 - (lg_sl ([.ref q])).length) Slot.unset).toArray = ls at hl ⊢
  have hl : lv_has ls 2 [(0, .ref q)] := hl
  refine lv_aload_n hC.1 hC.2.1 dX9_init_0 rfl (lv_at hl 0 rfl) ?_
  refine W.objInit hC.1 hC.2.1 hC.2.2.2.1 (hC.2.2.2.2.1 _ mlo_X9) (hC.2.2.2.2.1 _ oin) (hC.2.2.2.2.1 _ ocd) rfl (by rw [hml]; exact hl.1) rfl dX9_init_1 (Nat.le_of_ble_eq_true rfl) (Nat.le_of_ble_eq_true rfl) ?_
  refine W.eq (g2 := F0 m 4 ls []) rfl ?_
  refine lv_aload_n hC.1 hC.2.1 dX9_init_4 rfl (lv_at hl 0 rfl) ?_
  refine lv_bipush (v := 116) hC.1 hC.2.1 dX9_init_5 (by decide) ?_
  refine k_arr (n := 116) rfl hC hA hin h ff_X9_7 (Nat.le_of_ble_eq_true rfl) (by decide) (Nat.le_of_ble_eq_true rfl) (Nat.le_of_ble_eq_true rfl) dX9_init_7 dX9_init_9 rfl (fun r1 H locs h => ?_)
  have h : WK D A s.heap H locs ((q, .inr (8, [.ref r1, .null, .null, .null, .int 0, .null, .int 0, .int 0, .int 0, .int 0, .int 0, .null, .null, .null, .null])) :: ([] ++ [zr cI r1 116])) := h
  refine lv_aload_n hC.1 hC.2.1 dX9_init_12 rfl (lv_at hl 0 rfl) ?_
  refine lv_bipush (v := 116) hC.1 hC.2.1 dX9_init_13 (by decide) ?_
  refine k_arr (n := 116) rfl hC hA hin h ff_X9_13 (Nat.le_of_ble_eq_true rfl) (by decide) (Nat.le_of_ble_eq_true rfl) (Nat.le_of_ble_eq_true rfl) dX9_init_15 dX9_init_17 rfl (fun r2 H locs h => ?_)
  have h : WK D A s.heap H locs ((q, .inr (8, [.ref r1, .ref r2, .null, .null, .int 0, .null, .int 0, .int 0, .int 0, .int 0, .int 0, .null, .null, .null, .null])) :: ([] ++ [zr cI r1 116] ++ [zr cI r2 116])) := h
  refine lv_aload_n hC.1 hC.2.1 dX9_init_20 rfl (lv_at hl 0 rfl) ?_
  refine lv_bipush (v := 116) hC.1 hC.2.1 dX9_init_21 (by decide) ?_
  refine k_arr (n := 116) rfl hC hA hin h ff_X9_16 (Nat.le_of_ble_eq_true rfl) (by decide) (Nat.le_of_ble_eq_true rfl) (Nat.le_of_ble_eq_true rfl) dX9_init_23 dX9_init_25 rfl (fun r3 H locs h => ?_)
  have h : WK D A s.heap H locs ((q, .inr (8, [.ref r1, .ref r2, .ref r3, .null, .int 0, .null, .int 0, .int 0, .int 0, .int 0, .int 0, .null, .null, .null, .null])) :: ([] ++ [zr cI r1 116] ++ [zr cI r2 116] ++ [zr cI r3 116])) := h
  refine lv_aload_n hC.1 hC.2.1 dX9_init_28 rfl (lv_at hl 0 rfl) ?_
  refine lv_bipush (v := 7) hC.1 hC.2.1 dX9_init_29 (by decide) ?_
  refine k_arr (n := 7) rfl hC hA hin h ff_X9_19 (Nat.le_of_ble_eq_true rfl) (by decide) (Nat.le_of_ble_eq_true rfl) (Nat.le_of_ble_eq_true rfl) dX9_init_31 dX9_init_33 rfl (fun r4 H locs h => ?_)
  have h : WK D A s.heap H locs ((q, .inr (8, [.ref r1, .ref r2, .ref r3, .ref r4, .int 0, .null, .int 0, .int 0, .int 0, .int 0, .int 0, .null, .null, .null, .null])) :: ([] ++ [zr cI r1 116] ++ [zr cI r2 116] ++ [zr cI r3 116] ++ [zr cI r4 7])) := h
  refine lv_aload_n hC.1 hC.2.1 dX9_init_36 rfl (lv_at hl 0 rfl) ?_
  refine lv_bipush (v := 120) hC.1 hC.2.1 dX9_init_37 (by decide) ?_
  refine k_arr (n := 120) rfl hC hA hin h ff_X9_22 (Nat.le_of_ble_eq_true rfl) (by decide) (Nat.le_of_ble_eq_true rfl) (Nat.le_of_ble_eq_true rfl) dX9_init_39 dX9_init_41 rfl (fun r5 H locs h => ?_)
  have h : WK D A s.heap H locs ((q, .inr (8, [.ref r1, .ref r2, .ref r3, .ref r4, .int 0, .ref r5, .int 0, .int 0, .int 0, .int 0, .int 0, .null, .null, .null, .null])) :: ([] ++ [zr cI r1 116] ++ [zr cI r2 116] ++ [zr cI r3 116] ++ [zr cI r4 7] ++ [zr cI r5 120])) := h
  refine lv_aload_n hC.1 hC.2.1 dX9_init_44 rfl (lv_at hl 0 rfl) ?_
  refine lv_iconst (v := 4) hC.1 hC.2.1 dX9_init_45 (by decide) ?_
  refine k_arr (n := 4) rfl hC hA hin h ff_X9_25 (Nat.le_of_ble_eq_true rfl) (by decide) (Nat.le_of_ble_eq_true rfl) (Nat.le_of_ble_eq_true rfl) dX9_init_46 dX9_init_48 rfl (fun r6 H locs h => ?_)
  have h : WK D A s.heap H locs ((q, .inr (8, [.ref r1, .ref r2, .ref r3, .ref r4, .int 0, .ref r5, .int 0, .int 0, .int 0, .int 0, .int 0, .ref r6, .null, .null, .null])) :: ([] ++ [zr cI r1 116] ++ [zr cI r2 116] ++ [zr cI r3 116] ++ [zr cI r4 7] ++ [zr cI r5 120] ++ [zr cI r6 4])) := h
  refine lv_aload_n hC.1 hC.2.1 dX9_init_51 rfl (lv_at hl 0 rfl) ?_
  refine lv_iconst (v := 4) hC.1 hC.2.1 dX9_init_52 (by decide) ?_
  refine k_arr (n := 4) rfl hC hA hin h ff_X9_28 (Nat.le_of_ble_eq_true rfl) (by decide) (Nat.le_of_ble_eq_true rfl) (Nat.le_of_ble_eq_true rfl) dX9_init_53 dX9_init_55 rfl (fun r7 H locs h => ?_)
  have h : WK D A s.heap H locs ((q, .inr (8, [.ref r1, .ref r2, .ref r3, .ref r4, .int 0, .ref r5, .int 0, .int 0, .int 0, .int 0, .int 0, .ref r6, .ref r7, .null, .null])) :: ([] ++ [zr cI r1 116] ++ [zr cI r2 116] ++ [zr cI r3 116] ++ [zr cI r4 7] ++ [zr cI r5 120] ++ [zr cI r6 4] ++ [zr cI r7 4])) := h
  refine lv_aload_n hC.1 hC.2.1 dX9_init_58 rfl (lv_at hl 0 rfl) ?_
  refine lv_sipush (v := 160) hC.1 hC.2.1 dX9_init_59 (by decide) ?_
  refine k_arr (n := 160) rfl hC hA hin h ff_X9_31 (Nat.le_of_ble_eq_true rfl) (by decide) (Nat.le_of_ble_eq_true rfl) (Nat.le_of_ble_eq_true rfl) dX9_init_62 dX9_init_64 rfl (fun r8 H locs h => ?_)
  have h : WK D A s.heap H locs ((q, .inr (8, [.ref r1, .ref r2, .ref r3, .ref r4, .int 0, .ref r5, .int 0, .int 0, .int 0, .int 0, .int 0, .ref r6, .ref r7, .ref r8, .null])) :: ([] ++ [zr cI r1 116] ++ [zr cI r2 116] ++ [zr cI r3 116] ++ [zr cI r4 7] ++ [zr cI r5 120] ++ [zr cI r6 4] ++ [zr cI r7 4] ++ [zr cI r8 160])) := h
  refine lv_aload_n hC.1 hC.2.1 dX9_init_67 rfl (lv_at hl 0 rfl) ?_
  refine lv_bipush (v := 40) hC.1 hC.2.1 dX9_init_68 (by decide) ?_
  refine k_arr (n := 40) rfl hC hA hin h ff_X9_34 (Nat.le_of_ble_eq_true rfl) (by decide) (Nat.le_of_ble_eq_true rfl) (Nat.le_of_ble_eq_true rfl) dX9_init_70 dX9_init_72 rfl (fun r9 H locs h => ?_)
  have h : WK D A s.heap H locs ((q, .inr (8, [.ref r1, .ref r2, .ref r3, .ref r4, .int 0, .ref r5, .int 0, .int 0, .int 0, .int 0, .int 0, .ref r6, .ref r7, .ref r8, .ref r9])) :: ([] ++ [zr cI r1 116] ++ [zr cI r2 116] ++ [zr cI r3 116] ++ [zr cI r4 7] ++ [zr cI r5 120] ++ [zr cI r6 4] ++ [zr cI r7 4] ++ [zr cI r8 160] ++ [zr cI r9 40])) := h
  refine lv_aload_n hC.1 hC.2.1 dX9_init_75 rfl (lv_at hl 0 rfl) ?_
  refine k_get (fs := [.ref r1, .ref r2, .ref r3, .ref r4, .int 0, .ref r5, .int 0, .int 0, .int 0, .int 0, .int 0, .ref r6, .ref r7, .ref r8, .ref r9]) hC h fg_X9_7 rfl dX9_init_76 rfl ?_
  refine lv_iconst (v := 3) hC.1 hC.2.1 dX9_init_79 (by decide) ?_
  refine lv_iconst (v := 1) hC.1 hC.2.1 dX9_init_80 (by decide) ?_
  refine k_ias (z := 0) (i := 3) hC h rfl rfl (by decide) (by decide) dX9_init_81 rfl (fun H locs h => ?_)
  have h : WK D A s.heap H locs ((q, .inr (8, [.ref r1, .ref r2, .ref r3, .ref r4, .int 0, .ref r5, .int 0, .int 0, .int 0, .int 0, .int 0, .ref r6, .ref r7, .ref r8, .ref r9])) :: ([] ++ [(r1, .inl (cI, 116, .inl (upd (fun _ => 0) 3 1)))] ++ [zr cI r2 116] ++ [zr cI r3 116] ++ [zr cI r4 7] ++ [zr cI r5 120] ++ [zr cI r6 4] ++ [zr cI r7 4] ++ [zr cI r8 160] ++ [zr cI r9 40])) := h
  refine lv_aload_n hC.1 hC.2.1 dX9_init_82 rfl (lv_at hl 0 rfl) ?_
  refine k_get (fs := [.ref r1, .ref r2, .ref r3, .ref r4, .int 0, .ref r5, .int 0, .int 0, .int 0, .int 0, .int 0, .ref r6, .ref r7, .ref r8, .ref r9]) hC h fg_X9_7 rfl dX9_init_83 rfl ?_
  refine lv_iconst (v := 4) hC.1 hC.2.1 dX9_init_86 (by decide) ?_
  refine lv_iconst (v := 5) hC.1 hC.2.1 dX9_init_87 (by decide) ?_
  refine k_ias (z := 0) (i := 4) hC h rfl rfl (by decide) (by decide) dX9_init_88 rfl (fun H locs h => ?_)
  have h : WK D A s.heap H locs ((q, .inr (8, [.ref r1, .ref r2, .ref r3, .ref r4, .int 0, .ref r5, .int 0, .int 0, .int 0, .int 0, .int 0, .ref r6, .ref r7, .ref r8, .ref r9])) :: ([] ++ [(r1, .inl (cI, 116, .inl (upd (upd (fun _ => 0) 3 1) 4 5)))] ++ [zr cI r2 116] ++ [zr cI r3 116] ++ [zr cI r4 7] ++ [zr cI r5 120] ++ [zr cI r6 4] ++ [zr cI r7 4] ++ [zr cI r8 160] ++ [zr cI r9 40])) := h
  refine lv_aload_n hC.1 hC.2.1 dX9_init_89 rfl (lv_at hl 0 rfl) ?_
  refine k_get (fs := [.ref r1, .ref r2, .ref r3, .ref r4, .int 0, .ref r5, .int 0, .int 0, .int 0, .int 0, .int 0, .ref r6, .ref r7, .ref r8, .ref r9]) hC h fg_X9_7 rfl dX9_init_90 rfl ?_
  refine lv_iconst (v := 5) hC.1 hC.2.1 dX9_init_93 (by decide) ?_
  refine lv_iconst (v := 4) hC.1 hC.2.1 dX9_init_94 (by decide) ?_
  refine k_ias (z := 0) (i := 5) hC h rfl rfl (by decide) (by decide) dX9_init_95 rfl (fun H locs h => ?_)
  have h : WK D A s.heap H locs ((q, .inr (8, [.ref r1, .ref r2, .ref r3, .ref r4, .int 0, .ref r5, .int 0, .int 0, .int 0, .int 0, .int 0, .ref r6, .ref r7, .ref r8, .ref r9])) :: ([] ++ [(r1, .inl (cI, 116, .inl (upd (upd (upd (fun _ => 0) 3 1) 4 5) 5 4)))] ++ [zr cI r2 116] ++ [zr cI r3 116] ++ [zr cI r4 7] ++ [zr cI r5 120] ++ [zr cI r6 4] ++ [zr cI r7 4] ++ [zr cI r8 160] ++ [zr cI r9 40])) := h
  refine lv_aload_n hC.1 hC.2.1 dX9_init_96 rfl (lv_at hl 0 rfl) ?_
  refine k_get (fs := [.ref r1, .ref r2, .ref r3, .ref r4, .int 0, .ref r5, .int 0, .int 0, .int 0, .int 0, .int 0, .ref r6, .ref r7, .ref r8, .ref r9]) hC h fg_X9_7 rfl dX9_init_97 rfl ?_
  refine lv_bipush (v := 6) hC.1 hC.2.1 dX9_init_100 (by decide) ?_
  refine lv_iconst (v := 5) hC.1 hC.2.1 dX9_init_102 (by decide) ?_
  refine k_ias (z := 0) (i := 6) hC h rfl rfl (by decide) (by decide) dX9_init_103 rfl (fun H locs h => ?_)
  have h : WK D A s.heap H locs ((q, .inr (8, [.ref r1, .ref r2, .ref r3, .ref r4, .int 0, .ref r5, .int 0, .int 0, .int 0, .int 0, .int 0, .ref r6, .ref r7, .ref r8, .ref r9])) :: ([] ++ [(r1, .inl (cI, 116, .inl (upd (upd (upd (upd (fun _ => 0) 3 1) 4 5) 5 4) 6 5)))] ++ [zr cI r2 116] ++ [zr cI r3 116] ++ [zr cI r4 7] ++ [zr cI r5 120] ++ [zr cI r6 4] ++ [zr cI r7 4] ++ [zr cI r8 160] ++ [zr cI r9 40])) := h
  refine lv_iconst (v := 0) hC.1 hC.2.1 dX9_init_104 (by decide) ?_
  refine lv_istore_n (lv' := [(1, .int 0), (0, .ref q)]) hC.1 hC.2.1 dX9_init_105 rfl hl (by decide) rfl (fun ls hl => ?_)
  have e0 : (upd (upd (upd (upd (fun _ => 0) 3 1) 4 5) 5 4) 6 5) = fM 0 := by
    funext k
    simp only [upd, fM]
    rw [if_neg (show ¬ (106 ≤ k ∧ k < 106 + 0) by omega)]
    by_cases k3 : k = 3
    · subst k3; rfl
    · by_cases k4 : k = 4
      · subst k4; rfl
      · by_cases k5 : k = 5
        · subst k5; rfl
        · by_cases k6 : k = 6
          · subst k6; rfl
          · rw [if_neg k6, if_neg k5, if_neg k4, if_neg k3, if_neg k3, if_neg k4, if_neg k5, if_neg k6]
  rw [e0] at h
  have h : WK D A s.heap H locs ((q, .inr (8, [.ref r1, .ref r2, .ref r3, .ref r4, .int 0, .ref r5, .int 0, .int 0, .int 0, .int 0, .int 0, .ref r6, .ref r7, .ref r8, .ref r9])) :: (r1, .inl (cI, 116, .inl (fM 0))) :: [zr cI r2 116, zr cI r3 116, zr cI r4 7, zr cI r5 120, zr cI r6 4, zr cI r7 4, zr cI r8 160, zr cI r9 40]) := h
  refine lo_X9 (A := A) (r := r1) (fs := [.ref r1, .ref r2, .ref r3, .ref r4, .int 0, .ref r5, .int 0, .int 0, .int 0, .int 0, .int 0, .ref r6, .ref r7, .ref r8, .ref r9]) (Wd := [zr cI r2 116, zr cI r3 116, zr cI r4 7, zr cI r5 120, zr cI r6 4, zr cI r7 4, zr cI r8 160, zr cI r9 40]) hC rfl (fun H locs ls h => ?_) 10 0 H locs ls (by decide) hl h
  refine W.widen (k := 9) (n := 683) (Nat.le_of_ble_eq_true rfl) (Nat.le_of_ble_eq_true rfl) ?_
  exact W.vret hC.1 hC.2.1 hr (fun t ht hW => ⟨⟨fun k => [r1, r2, r3, r4, r5, r6, r7, r8, r9].getD k 0, rfl, trivial, by rw [ht]; exact h.1, h.2.1⟩, h.2.2.F ht⟩) h.2.2.2.2 dX9_init_128
theorem im_X8 : IM yX8_init cX8_init 1 { frames := 3, cells := 61, slots := 820, locals := 53 } [] 7 [.null, .null, .null, .null, .null, .null, .null, .null, .null, .int 0] kCorner 61 820 := by
  intro l D cI q sz
  unfold IQ2
  refine Met.ofW (cc := cX8_init) (maxL := 1) (ret := none) (by decide) rfl ?_
  intro p e s m args below meth c s₁ B hml hv
  obtain ⟨rfl, hsz, hP, hK, hD0, hN⟩ := hv
  have hts := atoms_spec (ws := Cond.code yX8_init cX8_init 1 none :: TBL) B.pre
  have hC : CK RX8 cX8_init 1 cI D p s m ([.ref q] : List Value).toArray c := ⟨B.exec, B.bytes, hml, findClass_of_methodNamed B.named, fun w hw => hts w (List.mem_cons_of_mem _ hw), hK, hN⟩
  have hin : meth.name = "<init>" := (name_of_methodNamed B.named B.method).1
  have hr := B.returns
  have hlocks := B.notSynchronized
  subst hsz
  have hD := hD0.self (sz := s.heap.size)
  generalize hAe : va_A [(q, .inr (7, [.null, .null, .null, .null, .null, .null, .null, .null, .null, .int 0]))] s.heap.size = A at hD ⊢
  have hA : ∀ z : Nat, s.heap.size ≤ z → A z := fun z h => by rw [← hAe]; exact Or.inr h
  have h : WK D A s.heap s.heap [] [(q, .inr (7, [.null, .null, .null, .null, .null, .null, .null, .null, .null, .int 0]))] := ⟨hP, hD, va_S.rf⟩
  have hl := lv_entry ([.ref q]) (n := 1) (Nat.le_of_ble_eq_true rfl)
  rw [lg_entry_eq]
  generalize (lg_sl ([.ref q]) ++ List.replicate (1 - (lg_sl ([.ref q])).length) Slot.unset).toArray = ls at hl ⊢
  have hl : lv_has ls 1 [(0, .ref q)] := hl
  refine lv_aload_n hC.1 hC.2.1 dX8_init_0 rfl (lv_at hl 0 rfl) ?_
  refine W.objInit hC.1 hC.2.1 hC.2.2.2.1 (hC.2.2.2.2.1 _ mlo_X8) (hC.2.2.2.2.1 _ oin) (hC.2.2.2.2.1 _ ocd) rfl (by rw [hml]; exact hl.1) rfl dX8_init_1 (Nat.le_of_ble_eq_true rfl) (Nat.le_of_ble_eq_true rfl) ?_
  refine W.eq (g2 := F0 m 4 ls []) rfl ?_
  refine lv_aload_n hC.1 hC.2.1 dX8_init_4 rfl (lv_at hl 0 rfl) ?_
  refine k_new (ci2 := 2) (fs2 := [.null, .null, .null, .null, .int 0, .int 0, .int 0, .int 0, .int 0, .int 0, .int 0, .int 0, .int 0, .int 0, .int 0]) (ty := tyX2) hC hA h cls_X2 tyX2_ok clk_X8_7 ist_X2 ini_X2 (fun j hj => by rcases (show j = 0 ∨ j = 1 ∨ j = 2 ∨ j = 3 ∨ j = 4 ∨ j = 5 ∨ j = 6 ∨ j = 7 ∨ j = 8 ∨ j = 9 ∨ j = 10 ∨ j = 11 ∨ j = 12 ∨ j = 13 ∨ j = 14 by omega) with rfl | rfl | rfl | rfl | rfl | rfl | rfl | rfl | rfl | rfl | rfl | rfl | rfl | rfl | rfl <;> rfl) (Nat.le_of_ble_eq_true rfl) (Nat.le_of_ble_eq_true rfl) dX8_init_5 dX8_init_8 rfl (fun r1 H h => ?_)
  refine k_call (host := none) (As := []) (rest := [.ref r1, .ref q]) hC hA hl.1 h (im_X2) rfl rfl ⟨Nat.le_of_ble_eq_true rfl, Nat.le_of_ble_eq_true rfl⟩ icd_X2 ini_X2 iin_X2 rfl idd_X2 rfl mli_X8_9 rfl (Nat.le_of_ble_eq_true rfl) dX8_init_9 ⟨Nat.le_of_ble_eq_true rfl, Nat.le_of_ble_eq_true rfl⟩ rfl (fun a2 H locs h => ?_)
  have h : WK D A s.heap H locs ((q, .inr (7, [.null, .null, .null, .null, .null, .null, .null, .null, .null, .int 0])) :: ([] ++ pEv r1 a2 cI)) := h
  refine k_ref hC hin h ff_X8_10 (Nat.le_of_ble_eq_true rfl) dX8_init_12 rfl (fun H locs h => ?_)
  have h : WK D A s.heap H locs ((q, .inr (7, [.ref r1, .null, .null, .null, .null, .null, .null, .null, .null, .int 0])) :: ([] ++ pEv r1 a2 cI)) := h
  refine lv_aload_n hC.1 hC.2.1 dX8_init_15 rfl (lv_at hl 0 rfl) ?_
  refine k_new (ci2 := 2) (fs2 := [.null, .null, .null, .null, .int 0, .int 0, .int 0, .int 0, .int 0, .int 0, .int 0, .int 0, .int 0, .int 0, .int 0]) (ty := tyX2) hC hA h cls_X2 tyX2_ok clk_X8_7 ist_X2 ini_X2 (fun j hj => by rcases (show j = 0 ∨ j = 1 ∨ j = 2 ∨ j = 3 ∨ j = 4 ∨ j = 5 ∨ j = 6 ∨ j = 7 ∨ j = 8 ∨ j = 9 ∨ j = 10 ∨ j = 11 ∨ j = 12 ∨ j = 13 ∨ j = 14 by omega) with rfl | rfl | rfl | rfl | rfl | rfl | rfl | rfl | rfl | rfl | rfl | rfl | rfl | rfl | rfl <;> rfl) (Nat.le_of_ble_eq_true rfl) (Nat.le_of_ble_eq_true rfl) dX8_init_16 dX8_init_19 rfl (fun r3 H h => ?_)
  refine k_call (host := none) (As := []) (rest := [.ref r3, .ref q]) hC hA hl.1 h (im_X2) rfl rfl ⟨Nat.le_of_ble_eq_true rfl, Nat.le_of_ble_eq_true rfl⟩ icd_X2 ini_X2 iin_X2 rfl idd_X2 rfl mli_X8_9 rfl (Nat.le_of_ble_eq_true rfl) dX8_init_20 ⟨Nat.le_of_ble_eq_true rfl, Nat.le_of_ble_eq_true rfl⟩ rfl (fun a4 H locs h => ?_)
  have h : WK D A s.heap H locs ((q, .inr (7, [.ref r1, .null, .null, .null, .null, .null, .null, .null, .null, .int 0])) :: ([] ++ pEv r1 a2 cI ++ pEv r3 a4 cI)) := h
  refine k_ref hC hin h ff_X8_16 (Nat.le_of_ble_eq_true rfl) dX8_init_23 rfl (fun H locs h => ?_)
  have h : WK D A s.heap H locs ((q, .inr (7, [.ref r1, .ref r3, .null, .null, .null, .null, .null, .null, .null, .int 0])) :: ([] ++ pEv r1 a2 cI ++ pEv r3 a4 cI)) := h
  refine lv_aload_n hC.1 hC.2.1 dX8_init_26 rfl (lv_at hl 0 rfl) ?_
  refine k_new (ci2 := 2) (fs2 := [.null, .null, .null, .null, .int 0, .int 0, .int 0, .int 0, .int 0, .int 0, .int 0, .int 0, .int 0, .int 0, .int 0]) (ty := tyX2) hC hA h cls_X2 tyX2_ok clk_X8_7 ist_X2 ini_X2 (fun j hj => by rcases (show j = 0 ∨ j = 1 ∨ j = 2 ∨ j = 3 ∨ j = 4 ∨ j = 5 ∨ j = 6 ∨ j = 7 ∨ j = 8 ∨ j = 9 ∨ j = 10 ∨ j = 11 ∨ j = 12 ∨ j = 13 ∨ j = 14 by omega) with rfl | rfl | rfl | rfl | rfl | rfl | rfl | rfl | rfl | rfl | rfl | rfl | rfl | rfl | rfl <;> rfl) (Nat.le_of_ble_eq_true rfl) (Nat.le_of_ble_eq_true rfl) dX8_init_27 dX8_init_30 rfl (fun r5 H h => ?_)
  refine k_call (host := none) (As := []) (rest := [.ref r5, .ref q]) hC hA hl.1 h (im_X2) rfl rfl ⟨Nat.le_of_ble_eq_true rfl, Nat.le_of_ble_eq_true rfl⟩ icd_X2 ini_X2 iin_X2 rfl idd_X2 rfl mli_X8_9 rfl (Nat.le_of_ble_eq_true rfl) dX8_init_31 ⟨Nat.le_of_ble_eq_true rfl, Nat.le_of_ble_eq_true rfl⟩ rfl (fun a6 H locs h => ?_)
  have h : WK D A s.heap H locs ((q, .inr (7, [.ref r1, .ref r3, .null, .null, .null, .null, .null, .null, .null, .int 0])) :: ([] ++ pEv r1 a2 cI ++ pEv r3 a4 cI ++ pEv r5 a6 cI)) := h
  refine k_ref hC hin h ff_X8_19 (Nat.le_of_ble_eq_true rfl) dX8_init_34 rfl (fun H locs h => ?_)
  have h : WK D A s.heap H locs ((q, .inr (7, [.ref r1, .ref r3, .ref r5, .null, .null, .null, .null, .null, .null, .int 0])) :: ([] ++ pEv r1 a2 cI ++ pEv r3 a4 cI ++ pEv r5 a6 cI)) := h
  refine lv_aload_n hC.1 hC.2.1 dX8_init_37 rfl (lv_at hl 0 rfl) ?_
  refine k_new (ci2 := 2) (fs2 := [.null, .null, .null, .null, .int 0, .int 0, .int 0, .int 0, .int 0, .int 0, .int 0, .int 0, .int 0, .int 0, .int 0]) (ty := tyX2) hC hA h cls_X2 tyX2_ok clk_X8_7 ist_X2 ini_X2 (fun j hj => by rcases (show j = 0 ∨ j = 1 ∨ j = 2 ∨ j = 3 ∨ j = 4 ∨ j = 5 ∨ j = 6 ∨ j = 7 ∨ j = 8 ∨ j = 9 ∨ j = 10 ∨ j = 11 ∨ j = 12 ∨ j = 13 ∨ j = 14 by omega) with rfl | rfl | rfl | rfl | rfl | rfl | rfl | rfl | rfl | rfl | rfl | rfl | rfl | rfl | rfl <;> rfl) (Nat.le_of_ble_eq_true rfl) (Nat.le_of_ble_eq_true rfl) dX8_init_38 dX8_init_41 rfl (fun r7 H h => ?_)
  refine k_call (host := none) (As := []) (rest := [.ref r7, .ref q]) hC hA hl.1 h (im_X2) rfl rfl ⟨Nat.le_of_ble_eq_true rfl, Nat.le_of_ble_eq_true rfl⟩ icd_X2 ini_X2 iin_X2 rfl idd_X2 rfl mli_X8_9 rfl (Nat.le_of_ble_eq_true rfl) dX8_init_42 ⟨Nat.le_of_ble_eq_true rfl, Nat.le_of_ble_eq_true rfl⟩ rfl (fun a8 H locs h => ?_)
  have h : WK D A s.heap H locs ((q, .inr (7, [.ref r1, .ref r3, .ref r5, .null, .null, .null, .null, .null, .null, .int 0])) :: ([] ++ pEv r1 a2 cI ++ pEv r3 a4 cI ++ pEv r5 a6 cI ++ pEv r7 a8 cI)) := h
  refine k_ref hC hin h ff_X8_22 (Nat.le_of_ble_eq_true rfl) dX8_init_45 rfl (fun H locs h => ?_)
  have h : WK D A s.heap H locs ((q, .inr (7, [.ref r1, .ref r3, .ref r5, .ref r7, .null, .null, .null, .null, .null, .int 0])) :: ([] ++ pEv r1 a2 cI ++ pEv r3 a4 cI ++ pEv r5 a6 cI ++ pEv r7 a8 cI)) := h
  refine lv_aload_n hC.1 hC.2.1 dX8_init_48 rfl (lv_at hl 0 rfl) ?_
  refine k_new (ci2 := 0) (fs2 := [.int 0, .int 0]) (ty := tyX0) hC hA h cls_X0 tyX0_ok clk_X8_25 ist_X0 ini_X0 (fun j hj => by rcases (show j = 0 ∨ j = 1 by omega) with rfl | rfl <;> rfl) (Nat.le_of_ble_eq_true rfl) (Nat.le_of_ble_eq_true rfl) dX8_init_49 dX8_init_52 rfl (fun r9 H h => ?_)
  refine k_call (host := (some RX8)) (As := []) (rest := [.ref r9, .ref q]) hC hA hl.1 h (im_X0) rfl rfl ⟨Nat.le_of_ble_eq_true rfl, Nat.le_of_ble_eq_true rfl⟩ icd_X0 ini_X0 iin_X0 rfl idd_X0 rfl hC.2.2.2.2.2.2.2.2.1 rfl (Nat.le_of_ble_eq_true rfl) dX8_init_53 ⟨Nat.le_of_ble_eq_true rfl, Nat.le_of_ble_eq_true rfl⟩ rfl (fun a10 H locs h => ?_)
  have h : WK D A s.heap H locs ((q, .inr (7, [.ref r1, .ref r3, .ref r5, .ref r7, .null, .null, .null, .null, .null, .int 0])) :: ([] ++ pEv r1 a2 cI ++ pEv r3 a4 cI ++ pEv r5 a6 cI ++ pEv r7 a8 cI ++ pChoice r9 a10 cI)) := h
  refine k_ref hC hin h ff_X8_28 (Nat.le_of_ble_eq_true rfl) dX8_init_56 rfl (fun H locs h => ?_)
  have h : WK D A s.heap H locs ((q, .inr (7, [.ref r1, .ref r3, .ref r5, .ref r7, .ref r9, .null, .null, .null, .null, .int 0])) :: ([] ++ pEv r1 a2 cI ++ pEv r3 a4 cI ++ pEv r5 a6 cI ++ pEv r7 a8 cI ++ pChoice r9 a10 cI)) := h
  refine lv_aload_n hC.1 hC.2.1 dX8_init_59 rfl (lv_at hl 0 rfl) ?_
  refine k_new (ci2 := 5) (fs2 := [.null, .int 0, .int 0, .int 0, .int 0, .int 0]) (ty := tyX6) hC hA h cls_X6 tyX6_ok clk_X8_32 ist_X6 ini_X6 (fun j hj => by rcases (show j = 0 ∨ j = 1 ∨ j = 2 ∨ j = 3 ∨ j = 4 ∨ j = 5 by omega) with rfl | rfl | rfl | rfl | rfl | rfl <;> rfl) (Nat.le_of_ble_eq_true rfl) (Nat.le_of_ble_eq_true rfl) dX8_init_60 dX8_init_63 rfl (fun r11 H h => ?_)
  refine k_call (host := (some RX8)) (As := []) (rest := [.ref r11, .ref q]) hC hA hl.1 h (im_X6) rfl rfl ⟨Nat.le_of_ble_eq_true rfl, Nat.le_of_ble_eq_true rfl⟩ icd_X6 ini_X6 iin_X6 rfl idd_X6 rfl hC.2.2.2.2.2.2.2.2.2.1 rfl (Nat.le_of_ble_eq_true rfl) dX8_init_64 ⟨Nat.le_of_ble_eq_true rfl, Nat.le_of_ble_eq_true rfl⟩ rfl (fun a12 H locs h => ?_)
  have h : WK D A s.heap H locs ((q, .inr (7, [.ref r1, .ref r3, .ref r5, .ref r7, .ref r9, .null, .null, .null, .null, .int 0])) :: ([] ++ pEv r1 a2 cI ++ pEv r3 a4 cI ++ pEv r5 a6 cI ++ pEv r7 a8 cI ++ pChoice r9 a10 cI ++ pTape r11 a12 cI)) := h
  refine k_ref hC hin h ff_X8_35 (Nat.le_of_ble_eq_true rfl) dX8_init_67 rfl (fun H locs h => ?_)
  have h : WK D A s.heap H locs ((q, .inr (7, [.ref r1, .ref r3, .ref r5, .ref r7, .ref r9, .ref r11, .null, .null, .null, .int 0])) :: ([] ++ pEv r1 a2 cI ++ pEv r3 a4 cI ++ pEv r5 a6 cI ++ pEv r7 a8 cI ++ pChoice r9 a10 cI ++ pTape r11 a12 cI)) := h
  refine lv_aload_n hC.1 hC.2.1 dX8_init_70 rfl (lv_at hl 0 rfl) ?_
  refine k_new (ci2 := 6) (fs2 := [.null, .null]) (ty := tyX7) hC hA h cls_X7 tyX7_ok clk_X8_39 ist_X7 ini_X7 (fun j hj => by rcases (show j = 0 ∨ j = 1 by omega) with rfl | rfl <;> rfl) (Nat.le_of_ble_eq_true rfl) (Nat.le_of_ble_eq_true rfl) dX8_init_71 dX8_init_74 rfl (fun r13 H h => ?_)
  refine lv_aload_n hC.1 hC.2.1 dX8_init_75 rfl (lv_at hl 0 rfl) ?_
  refine k_get (fs := [.ref r1, .ref r3, .ref r5, .ref r7, .ref r9, .ref r11, .null, .null, .null, .int 0]) hC h fg_X8_35 rfl dX8_init_76 rfl ?_
  refine lv_aload_n hC.1 hC.2.1 dX8_init_79 rfl (lv_at hl 0 rfl) ?_
  refine k_get (fs := [.ref r1, .ref r3, .ref r5, .ref r7, .ref r9, .ref r11, .null, .null, .null, .int 0]) hC h fg_X8_19 rfl dX8_init_80 rfl ?_
  refine k_call (host := none) (As := [.ref r11, .ref r5]) (rest := [.ref r13, .ref q]) hC hA hl.1 h (im_X7 _ _) rfl rfl ⟨Nat.le_of_ble_eq_true rfl, Nat.le_of_ble_eq_true rfl⟩ icd_X7 ini_X7 iin_X7 rfl idd_X7 rfl mli_X8_41 rfl (Nat.le_of_ble_eq_true rfl) dX8_init_83 ⟨Nat.le_of_ble_eq_true rfl, Nat.le_of_ble_eq_true rfl⟩ rfl (fun a14 H locs h => ?_)
  have h : WK D A s.heap H locs ((q, .inr (7, [.ref r1, .ref r3, .ref r5, .ref r7, .ref r9, .ref r11, .null, .null, .null, .int 0])) :: ([] ++ pEv r1 a2 cI ++ pEv r3 a4 cI ++ pEv r5 a6 cI ++ pEv r7 a8 cI ++ pChoice r9 a10 cI ++ pTape r11 a12 cI ++ pReader r11 r5 r13 a14 cI)) := h
  refine k_ref hC hin h ff_X8_44 (Nat.le_of_ble_eq_true rfl) dX8_init_86 rfl (fun H locs h => ?_)
  have h : WK D A s.heap H locs ((q, .inr (7, [.ref r1, .ref r3, .ref r5, .ref r7, .ref r9, .ref r11, .ref r13, .null, .null, .int 0])) :: ([] ++ pEv r1 a2 cI ++ pEv r3 a4 cI ++ pEv r5 a6 cI ++ pEv r7 a8 cI ++ pChoice r9 a10 cI ++ pTape r11 a12 cI ++ pReader r11 r5 r13 a14 cI)) := h
  refine lv_aload_n hC.1 hC.2.1 dX8_init_89 rfl (lv_at hl 0 rfl) ?_
  refine k_new (ci2 := 4) (fs2 := [.null, .null, .null]) (ty := tyX5) hC hA h cls_X5 tyX5_ok clk_X8_48 ist_X5 ini_X5 (fun j hj => by rcases (show j = 0 ∨ j = 1 ∨ j = 2 by omega) with rfl | rfl | rfl <;> rfl) (Nat.le_of_ble_eq_true rfl) (Nat.le_of_ble_eq_true rfl) dX8_init_90 dX8_init_93 rfl (fun r15 H h => ?_)
  refine k_call (host := (some RX8)) (As := []) (rest := [.ref r15, .ref q]) hC hA hl.1 h (im_X5) rfl rfl ⟨Nat.le_of_ble_eq_true rfl, Nat.le_of_ble_eq_true rfl⟩ icd_X5 ini_X5 iin_X5 rfl idd_X5 rfl hC.2.2.2.2.2.2.2.2.2.2 rfl (Nat.le_of_ble_eq_true rfl) dX8_init_94 ⟨Nat.le_of_ble_eq_true rfl, Nat.le_of_ble_eq_true rfl⟩ rfl (fun a16 H locs h => ?_)
  have h : WK D A s.heap H locs ((q, .inr (7, [.ref r1, .ref r3, .ref r5, .ref r7, .ref r9, .ref r11, .ref r13, .null, .null, .int 0])) :: ([] ++ pEv r1 a2 cI ++ pEv r3 a4 cI ++ pEv r5 a6 cI ++ pEv r7 a8 cI ++ pChoice r9 a10 cI ++ pTape r11 a12 cI ++ pReader r11 r5 r13 a14 cI ++ pSheets r15 a16 cI)) := h
  refine k_ref hC hin h ff_X8_51 (Nat.le_of_ble_eq_true rfl) dX8_init_97 rfl (fun H locs h => ?_)
  have h : WK D A s.heap H locs ((q, .inr (7, [.ref r1, .ref r3, .ref r5, .ref r7, .ref r9, .ref r11, .ref r13, .ref r15, .null, .int 0])) :: ([] ++ pEv r1 a2 cI ++ pEv r3 a4 cI ++ pEv r5 a6 cI ++ pEv r7 a8 cI ++ pChoice r9 a10 cI ++ pTape r11 a12 cI ++ pReader r11 r5 r13 a14 cI ++ pSheets r15 a16 cI)) := h
  refine lv_aload_n hC.1 hC.2.1 dX8_init_100 rfl (lv_at hl 0 rfl) ?_
  refine lv_bipush (v := 7) hC.1 hC.2.1 dX8_init_101 (by decide) ?_
  refine k_arr (n := 7) rfl hC hA hin h ff_X8_55 (Nat.le_of_ble_eq_true rfl) (by decide) (Nat.le_of_ble_eq_true rfl) (Nat.le_of_ble_eq_true rfl) dX8_init_103 dX8_init_105 rfl (fun r17 H locs h => ?_)
  have h : WK D A s.heap H locs ((q, .inr (7, [.ref r1, .ref r3, .ref r5, .ref r7, .ref r9, .ref r11, .ref r13, .ref r15, .ref r17, .int 0])) :: ([] ++ pEv r1 a2 cI ++ pEv r3 a4 cI ++ pEv r5 a6 cI ++ pEv r7 a8 cI ++ pChoice r9 a10 cI ++ pTape r11 a12 cI ++ pReader r11 r5 r13 a14 cI ++ pSheets r15 a16 cI ++ [zr cI r17 7])) := h
  refine lv_aload_n hC.1 hC.2.1 dX8_init_108 rfl (lv_at hl 0 rfl) ?_
  refine lv_iconst (v := 0) hC.1 hC.2.1 dX8_init_109 (by decide) ?_
  refine k_int hC h fp_X8_59 rfl rfl (Nat.le_of_ble_eq_true rfl) dX8_init_110 rfl (fun H locs h => ?_)
  have h : WK D A s.heap H locs ((q, .inr (7, [.ref r1, .ref r3, .ref r5, .ref r7, .ref r9, .ref r11, .ref r13, .ref r15, .ref r17, .int 0])) :: ([] ++ pEv r1 a2 cI ++ pEv r3 a4 cI ++ pEv r5 a6 cI ++ pEv r7 a8 cI ++ pChoice r9 a10 cI ++ pTape r11 a12 cI ++ pReader r11 r5 r13 a14 cI ++ pSheets r15 a16 cI ++ [zr cI r17 7])) := h
  refine W.widen (k := 61) (n := 820) (Nat.le_of_ble_eq_true rfl) (Nat.le_of_ble_eq_true rfl) ?_
  exact W.vret hC.1 hC.2.1 hr (fun t ht hW => ⟨⟨fun k => [q, r1, (a2 0), (a2 1), (a2 2), (a2 3), (a2 4), (a2 5), (a2 6), (a2 7), (a2 8), (a2 9), (a2 10), (a2 11), r3, (a4 0), (a4 1), (a4 2), (a4 3), (a4 4), (a4 5), (a4 6), (a4 7), (a4 8), (a4 9), (a4 10), (a4 11), r5, (a6 0), (a6 1), (a6 2), (a6 3), (a6 4), (a6 5), (a6 6), (a6 7), (a6 8), (a6 9), (a6 10), (a6 11), r7, (a8 0), (a8 1), (a8 2), (a8 3), (a8 4), (a8 5), (a8 6), (a8 7), (a8 8), (a8 9), (a8 10), (a8 11), r9, r11, (a12 0), r13, r15, (a16 0), (a16 1), (a16 2), r17].getD k 0, rfl, trivial, by rw [ht]; exact h.1, h.2.1⟩, h.2.2.F ht⟩) h.2.2.2.2 dX8_init_113
