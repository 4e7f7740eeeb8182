/-! THE CLAIM OUT OF ONE WALK OF THE LAW'S BODY. Your part is whole_start (and what it stands on); all else here is the same for every law, but numbers. -/
def R_law : String := "ChestnutCornerLaw"
def lw_P (b : Addr) (xs : List Int32) (args : Array Value) (s : State) : Prop := args = #[.ref b] ∧ s.IntsAt b xs ∧ xs.length ≤ 3072 ∧ (Jvm.Cond.and given_1 narrow_1).before args s = true
def lw_Q (_ : Array Value) (s : State) (o : Outcome) (t : State) : Prop := o = .returned (some (.int 1)) ∧ Framed s o t [] 72 1528
def lw_Z (below : List Frame) (a : Array Value) (s : State) : State → Prop := fun t => ∃ o, t.status = .running ∧ Ended t below o ∧ lw_Q a s o t
/-- the law's own end, with 1 on the stack, nothing written that was there before, its room as the claim has it -/
theorem lw_ret {p : Program} {l : Launch} {e : Env} {s : State} {m : MethodId} {below : List Frame} {meth : Method} {c : Code} {b : Nat} (hx : p.tables.exec = Jvm.exec) (hb : c.code = code) (hr : meth.sig.returnType = ret) (hlocks : meth.locks = false) {pc : Nat} {H : Heap} {ls : Array Slot} (hdg : decode code pc = .ok (.ireturn, 1)) : W p l e room_1 s m #[Value.ref b] below meth c H [] 72 1528 (lw_Z below #[Value.ref b] s) (F0 m pc ls [.int 1]) := by
  intro T hT X
  obtain ⟨fs, hret, hrun, hended, hW, hframe⟩ := X.leave (v := some (.int 1)) (hlocks := hlocks) (fun h => by rw [hr] at h; cases h)
  have hmeth' : T.vm.method? m = some meth := X.method'
  refine ⟨T.setFrames fs, ?_, .returned (some (.int 1)), hrun, hended, rfl, ⟨_, rfl⟩, hW, hframe⟩
  jvm_step X.here [X.here.top, hx, hb, hdg, hmeth', hr, ret, narrow_b1]
  (try refine ⟨rfl, ?_⟩); (try refine ⟨rfl, ?_⟩)
  first | (intro acts; rw [hret _ acts rfl rfl rfl]) | rw [hret _ _ rfl rfl rfl]
  exact Steps.refl _
/-- what holds at the law's entry: the machine, the code, the tables' words (any of lw_tbl by 'hts w (by decide +kernel)'), the script of L ints xs at the cell b, what the Statement gives of the start (any of its parts by flat_of_before) -/
def lw_At (p : Program) (s : State) (m : MethodId) (meth : Method) (c : Code) (b L : Nat) (xs : Nat → Int32) : Prop :=
  p.tables.exec = Jvm.exec ∧ c.code = code ∧ meth.sig.returnType = ret ∧ c.maxLocals = 4 ∧ s.vm.findClass R_law = some m.cls ∧ (∀ w ∈ lw_tbl, w.before #[Value.ref b] s = true) ∧ va_X b L xs s s.heap ∧ b < s.heap.size ∧ meth.locks = false ∧ (Jvm.Cond.and given_1 narrow_1).before #[Value.ref b] s = true
/-- the law, from its entry: both objects are made, then its loop -/
theorem whole_start {p : Program} {e : Env} {s : State} {m : MethodId} {below : List Frame} {meth : Method} {c : Code} (l : Launch) (hflags : l.flags = flags0) {b L : Nat} {xs : Nat → Int32} (hL : L ≤ 3072) (C0 : lw_At p s m meth c b L xs) : W p l e room_1 s m #[Value.ref b] below meth c s.heap [] 0 0 (lw_Z below #[Value.ref b] s) (entryFrame m ([Value.ref b] : List Value).toArray 4) := by
  obtain ⟨hx, hb, hr, hml, hown, hts, hX, hbl, hlocks, hgv⟩ := id C0
  have htT : ∀ w ∈ TBL, w.before #[Value.ref b] s = true := fun w hw => hts w (List.mem_filter.mp hw).1
  have ht : ∀ (i : Nat) (w : Cond), tables_1[i]? = some w → w.before #[Value.ref b] s = true := fun i w h => hts w (List.mem_append_right _ (List.mem_of_getElem? h))
  have hNK : NK s := ⟨va_Nw.of rfl (ht 34 _ (by decide +kernel)), va_Nw.of rfl (ht 69 _ (by decide +kernel)), va_Nw.of rfl (ht 158 _ (by decide +kernel)), va_Nw.of rfl (ht 172 _ (by decide +kernel)), va_Nw.of rfl (ht 214 _ (by decide +kernel))⟩
  obtain ⟨c0, i0, k0⟩ := u_known htT cls_X0.2.1 (htT _ ist_X0)
  obtain ⟨c1, i1, k1⟩ := u_known htT cls_X1.2.1 (htT _ ist_X1)
  obtain ⟨c2, i2, k2⟩ := u_known htT cls_X2.2.1 (htT _ ist_X2)
  obtain ⟨c3, i3, k3⟩ := u_known htT cls_X4.2.1 (htT _ ist_X4)
  obtain ⟨c4, i4, k4⟩ := u_known htT cls_X5.2.1 (htT _ ist_X5)
  obtain ⟨c5, i5, k5⟩ := u_known htT cls_X6.2.1 (htT _ ist_X6)
  obtain ⟨c6, i6, k6⟩ := u_known htT cls_X7.2.1 (htT _ ist_X7)
  obtain ⟨c7, i7, k7⟩ := u_known htT cls_X8.2.1 (htT _ ist_X8)
  obtain ⟨c8, i8, k8⟩ := u_known htT cls_X9.2.1 (htT _ ist_X9)
  obtain ⟨dC, dI, hKc⟩ : ∃ (dC : Nat → ClassId) (dI : Nat → Nat → Nat), ∀ (k : Nat) (q : vw_C), vwCl[k]? = some q → u_Kn s q.1 q.2.1 q.2.2 (dC k) (dI k) := by
    refine ⟨fun k => [c0, c1, c2, c3, c4, c5, c6, c7, c8].getD k c0, fun k => [i0, i1, i2, i3, i4, i5, i6, i7, i8].getD k i0, ?_⟩
    intro k q hq
    match k, hq with
    | 0, hq => cases hq; exact k0
    | 1, hq => cases hq; exact k1
    | 2, hq => cases hq; exact k2
    | 3, hq => cases hq; exact k3
    | 4, hq => cases hq; exact k4
    | 5, hq => cases hq; exact k5
    | 6, hq => cases hq; exact k6
    | 7, hq => cases hq; exact k7
    | 8, hq => cases hq; exact k8
    | k + 9, hq => simp [vwCl] at hq
  obtain ⟨cI, kA, comp, n1, n2, n3⟩ := Cond.arrayClass_spec (htT _ arr_int)
  have hK : va_K (dC, dI) vwCl [(cI, .int)] s := ⟨hKc, fun k q h => by
    cases k with
    | zero => cases h; exact ⟨fun n z => ⟨fun k h => (by cases h), kA, n2, comp, n3⟩, n1⟩
    | succ k => simp at h⟩
  have hC : CK RL cL_law 4 cI (dC, dI) p s m #[Value.ref b] c := ⟨hx, hb, hml, hown, htT, hK, hNK⟩
  have hA : ∀ q : Nat, s.heap.size ≤ q → (fun q : Nat => s.heap.size ≤ q) q := fun _ h => h
  have h : WK (dC, dI) (fun q : Nat => s.heap.size ≤ q) s.heap s.heap [] [] := ⟨fun k q h => by simp at h, ⟨fun i j p q h => by simp at h, fun k q h => by simp at h⟩, va_S.rf⟩
  have hl := lv_entry ([.ref b]) (n := 4) (Nat.le_of_ble_eq_true rfl)
  rw [lg_entry_eq]
  generalize (lg_sl ([.ref b]) ++ List.replicate (4 - (lg_sl ([.ref b])).length) Slot.unset).toArray = ls at hl ⊢
  have hl : lv_has ls 4 [(0, .ref b)] := hl
  refine k_new (ci2 := 7) (fs2 := [.null, .null, .null, .null, .null, .null, .null, .null, .null, .int 0]) (ty := tyX8) hC hA h cls_X8 tyX8_ok clk_L_7 ist_X8 ini_X8 (fun j hj => by rcases (show j = 0 ∨ j = 1 ∨ j = 2 ∨ j = 3 ∨ j = 4 ∨ j = 5 ∨ j = 6 ∨ j = 7 ∨ j = 8 ∨ j = 9 by omega) with rfl | rfl | rfl | rfl | rfl | rfl | rfl | rfl | rfl | rfl <;> rfl) (Nat.le_of_ble_eq_true rfl) (Nat.le_of_ble_eq_true rfl) dL_law_0 dL_law_3 rfl (fun q0 H h => ?_)
  refine k_call (host := none) (As := []) (rest := [.ref q0]) hC hA hl.1 h im_X8 rfl rfl ⟨Nat.le_of_ble_eq_true rfl, Nat.le_of_ble_eq_true rfl⟩ icd_X8 ini_X8 iin_X8 rfl idd_X8 rfl mli_L_9 rfl (Nat.le_of_ble_eq_true rfl) dL_law_4 ⟨Nat.le_of_ble_eq_true rfl, Nat.le_of_ble_eq_true rfl⟩ rfl (fun a H locs h => ?_)
  refine lv_astore_n (lv' := [(1, .ref q0), (0, .ref b)]) hx hb dL_law_7 rfl hl (by decide) rfl (fun ls hl => ?_)
  refine k_new (ci2 := 8) (fs2 := [.null, .null, .null, .null, .int 0, .null, .int 0, .int 0, .int 0, .int 0, .int 0, .null, .null, .null, .null]) (ty := tyX9) hC hA h cls_X9 tyX9_ok clk_L_10 ist_X9 ini_X9 (fun j hj => by rcases (show j = 0 ∨ j = 1 ∨ j = 2 ∨ j = 3 ∨ j = 4 ∨ j = 5 ∨ j = 6 ∨ j = 7 ∨ j = 8 ∨ j = 9 ∨ j = 10 ∨ j = 11 ∨ j = 12 ∨ j = 13 ∨ j = 14 by omega) with rfl | rfl | rfl | rfl | rfl | rfl | rfl | rfl | rfl | rfl | rfl | rfl | rfl | rfl | rfl <;> rfl) (Nat.le_of_ble_eq_true rfl) (Nat.le_of_ble_eq_true rfl) dL_law_8 dL_law_11 rfl (fun q1 H h => ?_)
  refine k_call (host := none) (As := []) (rest := [.ref q1]) hC hA hl.1 h im_X9 rfl rfl ⟨Nat.le_of_ble_eq_true rfl, Nat.le_of_ble_eq_true rfl⟩ icd_X9 ini_X9 iin_X9 rfl idd_X9 rfl mli_L_12 rfl (Nat.le_of_ble_eq_true rfl) dL_law_12 ⟨Nat.le_of_ble_eq_true rfl, Nat.le_of_ble_eq_true rfl⟩ rfl (fun a2 H locs h => ?_)
  refine lv_astore_n (lv' := [(2, .ref q1), (1, .ref q0), (0, .ref b)]) hx hb dL_law_15 rfl hl (by decide) rfl (fun ls hl => ?_)
  refine lv_iconst (v := 0) hx hb dL_law_16 (by decide) ?_
  refine lv_istore_n (lv' := [(3, .int 0), (2, .ref q1), (1, .ref q0), (0, .ref b)]) hx hb dL_law_17 rfl hl (by decide) rfl (fun ls hl => ?_)
  refine va_forget h.2.2.2.2 ?_
  refine W.widen (k := 72) (n := 1528) (Nat.le_of_ble_eq_true rfl) (Nat.le_of_ble_eq_true rfl) ?_
  obtain ⟨K, Z, tF, hSX⟩ := sx_start hts hgv
  have ew := ws_0 a a2 q0 q1 tF b K Z cI
  have a100 : ∀ i, i < 17 → adF a a2 q0 q1 tF b K Z (100 + i) = K i := fun i hi => by unfold adF; rw [if_neg (by omega), if_neg (by omega), if_neg (by omega), if_pos (by omega), show 100 + i - 100 = i by omega]
  have a200 : ∀ i, i < 17 → adF a a2 q0 q1 tF b K Z (200 + i) = Z i := fun i hi => by unfold adF; rw [if_neg (by omega), if_neg (by omega), if_neg (by omega), if_neg (by omega), show 200 + i - 200 = i by omega]
  have a98 : adF a a2 q0 q1 tF b K Z 98 = tF := rfl
  have a99 : adF a a2 q0 q1 tF b K Z 99 = b := rfl
  have a0 : adF a a2 q0 q1 tF b K Z 0 = q0 := rfl
  have a62 : adF a a2 q0 q1 tF b K Z 62 = q1 := rfl
  obtain ⟨ad, had⟩ : ∃ ad, ad = adF a a2 q0 q1 tF b K Z := ⟨_, rfl⟩
  rw [← had] at ew a100 a200 a98 a99 a0 a62
  have hP : va_P (dC, dI) vwCl (wsOf ad cI M0) H := by rw [ew]; exact h.1
  have hD : va_D (fun q : Nat => s.heap.size ≤ q) (wsOf ad cI M0) := by rw [ew]; exact h.2.1
  have hInj : Inj ad := fun i j hi hj hij => hD.1 i j _ _ (ws_at ad cI M0 hi) (ws_at ad cI M0 hj) hij
  have hge : ∀ q, AA ad q → s.heap.size ≤ q := fun q hq => by
    obtain ⟨k, hk, ek⟩ := hq
    rw [ek]
    exact hD.2 k _ (ws_at ad cI M0 hk)
  have hSX' : SX ad s s.heap := hSX ad a100 a200 a98 hge
  have hS : va_S (AA ad) s.heap H [] := ⟨h.2.2.1, fun q h1 h2 => h.2.2.2.1 q h1 (Nat.not_le.mpr h1), fun _ hz => by cases hz⟩
  have hX99 : va_X (ad 99) L xs s s.heap ∧ ad 99 < s.heap.size ∧ ¬ AA ad (ad 99) := by
    rw [a99]
    exact ⟨hX, hbl, fun z => absurd (hge _ z) (Nat.not_le.mpr hbl)⟩
  have hl' : lv_has ls 4 [(0, .ref (ad 99)), (1, .ref (ad 0)), (2, .ref (ad 62)), (3, .int (nI (6 * 0)))] := by
    rw [a99, a0, a62]
    exact lv_sub hl [3, 2, 1, 0] rfl
  refine l_law hL 513 0 M0 rfl RQ_0 p l e s m #[Value.ref b] below meth c 72 1528 (lw_Z below #[Value.ref b] s) ad (dC, dI) cI ⟨hx, hb, hml, hown, htT, Nat.le_of_ble_eq_true rfl, Nat.le_of_ble_eq_true rfl, hK, hInj, hSX', hX99⟩ (fun rv M' H' locs' pc' ls' hret hq hP' hS' => ?_) H [] ls hP hS hl'
  cases (show rv = some (.int 1) from hq)
  refine va_forget (fun z hz => hge _ (hS'.2.2 z hz)) ?_
  exact lw_ret hx hb hr hlocks hret.1
