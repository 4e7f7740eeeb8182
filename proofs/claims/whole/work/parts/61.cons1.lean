/-! Rows for the constructors: a world whose head is the object that is made -/
def NK (U : State) : Prop := va_Nw (.methodLinkNest RX2 11 yX4_init RX8) U ∧ va_Nw (.methodLinkNest RX2 20 yX1_init RX8) U ∧ va_Nw (.methodLinkNest RX8 27 yX0_init RX8) U ∧ va_Nw (.methodLinkNest RX8 34 yX6_init RX8) U ∧ va_Nw (.methodLinkNest RX8 50 yX5_init RX8) U
theorem NK.warm {s U : State} (hW : s.WarmedH U.vm) (h : NK s) : NK U := ⟨va_Nw.warmM hW h.1, va_Nw.warmM hW h.2.1, va_Nw.warmM hW h.2.2.1, va_Nw.warmM hW h.2.2.2.1, va_Nw.warmM hW h.2.2.2.2⟩
theorem NK.same {u U : State} (hv : U.vm = u.vm) (h : NK u) : NK U := ⟨va_Nw.same rfl hv.symm h.1, va_Nw.same rfl hv.symm h.2.1, va_Nw.same rfl hv.symm h.2.2.1, va_Nw.same rfl hv.symm h.2.2.2.1, va_Nw.same rfl hv.symm h.2.2.2.2⟩
/-- what stands at a constructor's (or the law's) start -/
def CK (own : String) (cc : ByteArray) (nL : Nat) (cI : ClassId) (D : va_G) (p : Program) (s : State) (m : MethodId) (args : Array Value) (c : Code) : Prop := p.tables.exec = Jvm.exec ∧ c.code = cc ∧ c.maxLocals = nL ∧ s.vm.findClass own = some m.cls ∧ (∀ w ∈ TBL, w.before args s = true) ∧ va_K D vwCl [(cI, .int)] s ∧ NK s
def WK (D : va_G) (A : Nat → Prop) (H0 H : Heap) (locs : List Loc) (ws : va_W) : Prop := va_P D vwCl ws H ∧ va_D A ws ∧ va_S A H0 H locs
def FF (own : String) (idx ci j : Nat) : Prop := ∃ (C : String) (T : u_T) (N : Nat), CLS ci C T N ∧ j < N ∧ Cond.fieldLink own idx (T j).1 (T j).2.1 (T j).2.2.1 ∈ TBL ∧ (T j).2.2.2 = true ∧ (T j).1 = own ∧ ∃ ty, parseFieldDescriptor (T j).2.2.1 = some ty ∧ ∀ r : Nat, narrow ty (.ref r) = .ref r ∧ fits ty (.ref r) = true
section CR
variable {p : Program} {l : Launch} {e : Env} {R : Room} {s : State} {m : MethodId} {args : Array Value} {below : List Frame} {meth : Method} {c : Code} {H : Heap} {locs : List Loc} {cells slots : Nat} {Q : State → Prop}
variable {own : String} {cc : ByteArray} {nL : Nat} {cI : ClassId} {D : va_G} {A : Nat → Prop} {pc pc' : Nat} {ls : Array Slot} {rest : List Value} {q0 ci idx j : Nat} {fs : List Value} {Wd : va_W}
theorem k_int {v : Int32} {ty : FieldType} (hC : CK own cc nL cI D p s m args c) (h : WK D A s.heap H locs ((q0, .inr (ci, fs)) :: Wd)) (hF : FP own idx ci j ty) (hn : narrow ty (.int v) = .int v) (hfit : fits ty (.int v) = true) (hl : j < fs.length) (hdg : decode cc pc = .ok (.putfield idx, 3)) (hp : pc + 3 = pc')
    (kk : ∀ (H1 : Heap) (locs1 : List Loc), WK D A s.heap H1 locs1 ((q0, .inr (ci, fs.set j (.int v))) :: Wd) → W p l e R s m args below meth c H1 locs1 cells slots Q (F0 m pc' ls rest)) : W p l e R s m args below meth c H locs cells slots Q (F0 m pc ls (.int v :: .ref q0 :: rest)) := by
  subst hp
  obtain ⟨C, T, N, hcl, hj, hlink, hfin, hpar⟩ := hF
  obtain ⟨ty0, hty⟩ := hcl.2.2.1
  exact va_put (C := C) (T := T) (N := N) (ci := ci) (D := D) (cl := vwCl) (tys := [(cI, .int)]) (ws := (q0, .inr (ci, fs)) :: Wd) (v := .int v) hC.1 hC.2.1 hC.2.2.2.2.1 hcl.2.1 ty0 hty hcl.2.2.2 hC.2.2.2.1 hC.2.2.2.2.2.1 h.1 h.2.1 h.2.2 0 rfl hcl.1 j hj (hC.2.2.2.2.1 _ hlink) (fun _ h9 => h9) hfin hpar hn hfit hl hdg (fun H1 locs1 hP1 hD1 hS1 => kk H1 locs1 ⟨hP1, hD1, hS1⟩)
theorem k_ref {r : Nat} (hC : CK own cc nL cI D p s m args c) (hin : meth.name = "<init>") (h : WK D A s.heap H locs ((q0, .inr (ci, fs)) :: Wd)) (hF : FF own idx ci j) (hl : j < fs.length) (hdg : decode cc pc = .ok (.putfield idx, 3)) (hp : pc + 3 = pc')
    (kk : ∀ (H1 : Heap) (locs1 : List Loc), WK D A s.heap H1 locs1 ((q0, .inr (ci, fs.set j (.ref r))) :: Wd) → W p l e R s m args below meth c H1 locs1 cells slots Q (F0 m pc' ls rest)) : W p l e R s m args below meth c H locs cells slots Q (F0 m pc ls (.ref r :: .ref q0 :: rest)) := by
  subst hp
  obtain ⟨C, T, N, hcl, hj, hlink, hfin, hdecl, ty, hpar, hnf⟩ := hF
  obtain ⟨ty0, hty⟩ := hcl.2.2.1
  exact va_putF (C := C) (T := T) (N := N) (ci := ci) (D := D) (cl := vwCl) (tys := [(cI, .int)]) (ws := (q0, .inr (ci, fs)) :: Wd) (v := .ref r) hC.1 hC.2.1 hC.2.2.2.2.1 hcl.2.1 ty0 hty hcl.2.2.2 hC.2.2.2.1 hC.2.2.2.2.2.1 h.1 h.2.1 h.2.2 0 rfl hcl.1 j hj (hC.2.2.2.2.1 _ hlink) (fun _ h9 => h9) hfin hin hdecl hpar (hnf r).1 (hnf r).2 hl hdg (fun H1 locs1 hP1 hD1 hS1 => kk H1 locs1 ⟨hP1, hD1, hS1⟩)
theorem arr_int : Cond.arrayClass .int ∈ TBL := tbl_t 66 (by decide +kernel) rfl
/-- a new row of ints, put into a final field -/
theorem k_arr {n : Nat} {x : Int32} (hx : x = nI n) (hC : CK own cc nL cI D p s m args c) (hA : ∀ q, s.heap.size ≤ q → A q) (hin : meth.name = "<init>") (h : WK D A s.heap H locs ((q0, .inr (ci, fs)) :: Wd)) (hF : FF own idx ci j) (hl : j < fs.length) (hn : n ≤ 200) (hcells : cells + 1 ≤ R.cells) (hslots : slots + n ≤ R.slots) (hd1 : decode cc pc = .ok (.newarray .int, 2)) (hd2 : decode cc (pc + 2) = .ok (.putfield idx, 3)) (hp : pc + 5 = pc')
    (kk : ∀ (r : Nat) (H1 : Heap) (locs1 : List Loc), WK D A s.heap H1 locs1 ((q0, .inr (ci, fs.set j (.ref r))) :: (Wd ++ [(r, .inl (cI, n, .inl (fun _ => 0)))])) → W p l e R s m args below meth c H1 locs1 (cells + 1) (slots + n) Q (F0 m pc' ls rest)) : W p l e R s m args below meth c H locs cells slots Q (F0 m pc ls (.int x :: .ref q0 :: rest)) := by
  subst hx
  refine va_newa (atype := .int) (ty := .int) (a0 := (n, .inl (fun _ => 0))) (N' := n) hC.1 hC.2.1 (hC.2.2.2.2.1 _ arr_int) rfl hC.2.2.2.2.2.1 h.1 h.2.1 h.2.2 hA (fun cA => rfl) (nnI (by omega)) (nI_clamp (by omega)) (by show n * 4 ≤ _; omega) hcells hslots hd1 (fun r cA H1 hK hP hD hS => ?_)
  have e : cA = cI := by
    have h0 : s.vm.findClass ("[" ++ FieldType.int.toString) = some cI := (hK.2 0 (cI, .int) rfl).2
    have h1 : s.vm.findClass ("[" ++ FieldType.int.toString) = some cA := (hK.2 1 (cA, .int) rfl).2
    exact Option.some.inj (h1.symm.trans h0)
  subst e
  exact k_ref (ci := ci) (fs := fs) (Wd := Wd ++ [(r, .inl (cA, n, .inl (fun _ => 0)))]) hC hin (show WK D A s.heap H1 locs (((q0, .inr (ci, fs)) :: Wd) ++ [(r, .inl (cA, n, .inl (fun _ => 0)))]) from ⟨hP, hD, hS⟩) hF hl hd2 (by omega) (fun H2 locs2 h2 => kk r H2 locs2 h2)
/-- a new object, dup -/
theorem k_new {ci2 i2 N : Nat} {C : String} {T : u_T} {fs2 : List Value} {ws : va_W} {ty : Nat → FieldType} (hC : CK own cc nL cI D p s m args c) (hA : ∀ q, s.heap.size ≤ q → A q) (h : WK D A s.heap H locs ws) (hcl : CLS ci2 C T N) (hty : ∀ k, k < N → parseFieldDescriptor (T k).2.2.1 = some (ty k)) (hlk : Cond.classLink own i2 C ∈ TBL) (hins : Cond.instantiable C N ∈ TBL) (hini : Cond.initialized C ∈ TBL) (hfs : ∀ j, j < N → defaultValue (ty j) = vp_V fs2 j) (hcells : cells + 1 ≤ R.cells) (hslots : slots + N ≤ R.slots) (hd1 : decode cc pc = .ok (.new i2, 3)) (hd2 : decode cc (pc + 3) = .ok (.dup, 1)) (hp : pc + 4 = pc')
    (kk : ∀ (r : Nat) (H1 : Heap), WK D A s.heap H1 locs (ws ++ [(r, .inr (ci2, fs2))]) → W p l e R s m args below meth c H1 locs (cells + 1) (slots + N) Q (F0 m pc' ls (.ref r :: .ref r :: rest))) : W p l e R s m args below meth c H locs cells slots Q (F0 m pc ls rest) := by
  subst hp
  exact va_new (ci := ci2) (fs := fs2) (C := C) (T := T) (N := N) hC.1 hC.2.1 hC.2.2.2.2.1 hcl.2.1 ty hty hC.2.2.2.1 (hC.2.2.2.2.1 _ hlk) (hC.2.2.2.2.1 _ hins) (hC.2.2.2.2.1 _ hini) hC.2.2.2.2.2.1 h.1 h.2.1 h.2.2 hA hcl.1 hfs hcells hslots hd1 (fun r H1 hP hD hS => lv_dup hC.1 hC.2.1 hd2 rfl (kk r H1 ⟨hP, hD, hS⟩))
end CR
/-- a constructor's start: its object alone, fresh -/
def IP (D : va_G) (cI : ClassId) (q sz ci : Nat) (fs : List Value) (U : State) : Prop := U.heap.size = sz ∧ va_P D vwCl [(q, .inr (ci, fs))] U.heap ∧ va_K D vwCl [(cI, .int)] U ∧ va_D (fun _ => True) [(q, .inr (ci, fs))] ∧ NK U
/-- .. and its end: the object, and what it made -/
def IQ2 (D : va_G) (cI : ClassId) (q sz ci : Nat) (fs : List Value) (post : Nat → (Nat → Nat) → ClassId → va_W) : Array Value → State → Outcome → State → Prop := va_Qv (fun _ : Nat → Nat => True) (fun a t => va_P D vwCl (post q a cI) t.heap ∧ va_D (va_A [(q, .inr (ci, fs))] sz) (post q a cI)) (va_A [(q, .inr (ci, fs))] sz)
def IM (y : MethodName) (cc : ByteArray) (maxL : Nat) (rm : Room) (As : List Value) (ci : Nat) (fs : List Value) (post : Nat → (Nat → Nat) → ClassId → va_W) (mc ms : Nat) : Prop := ∀ (l : Launch) (D : va_G) (cI : ClassId) (q sz : Nat), Met l y (Cond.code y cc maxL none :: TBL) rm (va_Pc (.ref q :: As) (IP D cI q sz ci fs)) (IQ2 D cI q sz ci fs post) mc ms (va_A [(q, .inr (ci, fs))] sz)
theorem blind_IP {D : va_G} {cI : ClassId} {q sz ci : Nat} {fs As : List Value} : FrameBlind (va_Pc As (IP D cI q sz ci fs)) := fun a U g mk h => by
  obtain ⟨h0, h1, hP, hK, hD, hN⟩ := h
  exact ⟨h0, h1, hP, va_K.moved (u := U) (U := U.calling g mk a) (Vm.Alike.refl U.vm) hK, hD, NK.same rfl hN⟩
/-- the callee's object stands last; behind the call: the others, and what came of it -/
theorem k_join {A0 : Nat → Prop} {D : va_G} {cl : List vw_C} {ws w1 : va_W} {x : Nat × va_E} {H H1 : Heap} (hP : va_P D cl (ws ++ [x]) H) (hD : va_D A0 (ws ++ [x])) (hk : ∀ q : Nat, q < H.size → ¬ va_A [x] H.size q → H1[q]? = H[q]?) (hF : ∀ q, va_A [x] H.size q → A0 q) (hP1 : va_P D cl w1 H1) (hD1 : va_D (va_A [x] H.size) w1) : va_P D cl (ws ++ w1) H1 ∧ va_D A0 (ws ++ w1) := by
  have hC : [ws.length].map (fun i => (ws ++ [x])[i]?) = [x].map some := by simp
  have hRr : (List.range ws.length).map (fun i => (ws ++ [x])[i]?) = ws.map some := by
    apply List.ext_getElem?
    intro i
    rcases Nat.lt_or_ge i ws.length with q | q
    · simp [q]
      rw [List.getElem?_append_left q, List.getElem?_eq_getElem q]
    · rw [List.getElem?_eq_none (by simp; exact q), List.getElem?_eq_none (by simp; exact q)]
  have nd : ∀ l : List Nat, l.Nodup → va_nd l = true := by
    intro l
    induction l with
    | nil => intro _; rfl
    | cons a t ih =>
      intro h
      rw [List.nodup_cons] at h
      simp only [va_nd, Bool.and_eq_true, decide_eq_true_eq]
      exact ⟨h.1, ih h.2⟩
  exact va_join (wc := [x]) (wr := ws) (w1 := w1) hP hD [ws.length] (List.range ws.length) hC hRr (nd _ List.nodup_range) (fun i hi => by simp at hi ⊢; omega) hk hF hP1 hD1
section CC
variable {p : Program} {l : Launch} {e : Env} {R : Room} {s : State} {m : MethodId} {args : Array Value} {below : List Frame} {meth : Method} {c : Code} {H : Heap} {locs : List Loc} {cells slots : Nat} {Q : State → Prop}
variable {own : String} {cc : ByteArray} {nL : Nat} {cI : ClassId} {D : va_G} {A : Nat → Prop} {pc pc' : Nat} {ls : Array Slot} {rest : List Value} {q0 ci idx j : Nat} {fs : List Value} {Wd : va_W}
/-- a constructor's call -/
theorem k_call {host : Option String} {y : MethodName} {cc2 : ByteArray} {maxL mc ms n q ci2 : Nat} {rm : Room} {As : List Value} {fs2 : List Value} {post : Nat → (Nat → Nat) → ClassId → va_W} {ws : va_W} {st : List Value}
    (hC : CK own cc nL cI D p s m args c) (hA : ∀ q, s.heap.size ≤ q → A q) (hls : ls.size = nL) (h : WK D A s.heap H locs (ws ++ [(q, .inr (ci2, fs2))])) (hM : IM y cc2 maxL rm As ci2 fs2 post mc ms)
    (hrc : rm.cells = mc) (hrs : rm.slots = ms) (hrm : rm.frames + 1 ≤ R.frames ∧ 8 + (maxL + 11) + rm.locals ≤ R.locals) (hcode : Cond.code y cc2 maxL none ∈ TBL) (hini : Cond.initialized y.cls ∈ TBL) (hins : Cond.instanceMethod y ∈ TBL) (hy : y.name = "<init>") (hd : y.cls ≠ "java/lang/invoke/MethodHandle" ∧ y.cls ≠ "java/lang/invoke/VarHandle" ∧ (parseMethodDescriptor y.desc).map (fun d => d.parameters.length) = some n) (hn : As.length = n)
    (hlink : match host with | none => Cond.methodLink own idx y ∈ TBL | some h => va_Nw (.methodLinkNest own idx y h) s)
    (hst : st = As.reverse ++ .ref q :: rest) (hw : (rest.map fun v => v.category).sum ≤ 8) (hdg : decode cc pc = .ok (.invokespecial idx, 3)) (hf : cells + mc ≤ R.cells ∧ slots + ms ≤ R.slots) (hp : pc + 3 = pc')
    (kk : ∀ (a : Nat → Nat) (H1 : Heap) (locs1 : List Loc), WK D A s.heap H1 locs1 (ws ++ post q a cI) → W p l e R s m args below meth c H1 locs1 (cells + mc) (slots + ms) Q (F0 m pc' ls rest)) : W p l e R s m args below meth c H locs cells slots Q (F0 m pc ls st) := by
  subst hp
  subst hst
  have hG : GoodIn TBL (Cond.code y cc2 maxL none :: TBL) := fun w hw => by
    rcases List.mem_cons.mp hw with rfl | h
    · exact ⟨hcode, tbl_good _ hcode⟩
    · exact ⟨h, tbl_good _ h⟩
  have hPc : va_P D vwCl [(q, .inr (ci2, fs2))] H := fun k x hk => by
    cases k with
    | zero => exact h.1 ws.length x (by simpa using hk)
    | succ k => simp at hk
  have hDc : va_D A [(q, .inr (ci2, fs2))] := ⟨fun i j x z hi hj _ => by
    cases i with
    | zero => cases j with
      | zero => rfl
      | succ j => simp at hj
    | succ i => simp at hi, fun k x hk => by
    cases k with
    | zero => exact h.2.1.2 ws.length x (by simpa using hk)
    | succ k => simp at hk⟩
  have hFc : ∀ z, va_A [(q, .inr (ci2, fs2))] H.size z → A z := va_free (ws := ws ++ [(q, .inr (ci2, fs2))]) h.2.1 h.2.2 hA [ws.length] (by simp)
  have hp : PreS s H (va_Pc (.ref q :: As) (IP D cI q H.size ci2 fs2)) (.ref q :: As) := ⟨blind_IP, fun U hU hW => ⟨rfl, by rw [hU], by rw [hU]; exact hPc, va_K.moved hW.alike hC.2.2.2.2.2.1, hDc.weaken (fun _ _ _ _ => trivial), NK.warm hW hC.2.2.2.2.2.2⟩⟩
  have hr : va_Run p l e R s m args below meth c H locs cells slots mc ms (F0 m pc ls (As.reverse ++ .ref q :: rest)) rest (IQ2 D cI q H.size ci2 fs2 post (Value.ref q :: As).toArray) (va_A [(q, .inr (ci2, fs2))] H.size) := by
    cases host with
    | none => exact va_runI (own := own) (Ts := TBL) (nL := nL) (cc := cc) ⟨hC.1, hC.2.1, hC.2.2.1, hC.2.2.2.1, hC.2.2.2.2.1⟩ (hM l D cI q H.size) (cwI n hC.2.2.2.2.1 hG rfl hrc hrs (hC.2.2.2.2.1 _ hini) (hC.2.2.2.2.1 _ hlink) (hC.2.2.2.2.1 _ hins) hy hd hrm) hp rfl hn hls rfl (lv_room hw) hdg hf
    | some ho => exact va_runIN (own := own) (host := ho) (Ts := TBL) (nL := nL) (cc := cc) ⟨hC.1, hC.2.1, hC.2.2.1, hC.2.2.2.1, hC.2.2.2.2.1⟩ (hM l D cI q H.size) ⟨va_cnB n hC.2.2.2.2.1 hG rfl hrc hrs hlink (hC.2.2.2.2.1 _ hini) hd hrm, hy, hC.2.2.2.2.1 _ hins⟩ hp rfl hn hls rfl (lv_room hw) hdg hf
  refine va_callv hr h.2.2 (fun z _ hz => hFc z hz) hFc (fun a t H1 locs1 ht hvm _ hB hz1 hk1 hS => ?_)
  obtain ⟨hP1, hD1⟩ := hB
  rw [ht] at hP1
  obtain ⟨hP2, hD2⟩ := k_join h.1 h.2.1 hk1 hFc hP1 hD1
  exact kk a H1 locs1 ⟨hP2, hD2, hS⟩
end CC
