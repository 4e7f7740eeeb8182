/-! THE LAYER: a pure picture of all 72 cells (an int memory M over fixed numbers of cells), and the judgement V over it -/
abbrev Mem : Type := Nat → Nat → Int32
abbrev MD : Type := MethodName × ByteArray × Nat × Option FieldType × Room × Option (Nat × (Nat → Int32))
abbrev ShT : Type := Nat ⊕ (Nat × List (Option Nat))
def TBL : List Cond := lw_tbl.filter goodWord
theorem tbl_in {w : Cond} (h : w ∈ lw_tbl) (hg : goodWord w = true) : w ∈ TBL := List.mem_filter.mpr ⟨h, hg⟩
theorem tbl_t {w : Cond} (i : Nat) (h : tables_1[i]? = some w) (hg : goodWord w = true) : w ∈ TBL := tbl_in (List.mem_append_right _ (List.mem_of_getElem? h)) hg
theorem tbl_good : ∀ w ∈ TBL, (w.onTables && w.keeps) = true ∨ ∃ ty, w = .arrayClass ty := fun _ h => good_of_word (List.mem_filter.mp h).2
def tEv (e : Nat) : List ShT := [.inr (2, [some (e+1), some (e+7), some (e+11), some (e+12), none, none, none, none, none, none, none, none, none, none, none]), .inr (3, [some (e+2), some (e+3), some (e+4), some (e+5), some (e+6), none]), .inl 10, .inl 10, .inl 10, .inl 10, .inl 10, .inr (1, [some (e+8), some (e+9), some (e+10), none]), .inl 12, .inl 12, .inl 12, .inl 7, .inl 10]
def shp : List ShT := [.inr (7, [some 1, some 14, some 27, some 40, some 53, some 54, some 56, some 57, some 61, none])] ++ (tEv 1 ++ (tEv 14 ++ (tEv 27 ++ (tEv 40 ++ [.inr (0, [none, none]), .inr (5, [some 55, none, none, none, none, none]), .inl 120, .inr (6, [some 54, some 27]), .inr (4, [some 58, some 59, some 60]), .inl 4, .inl 4, .inl 160, .inl 7, .inr (8, [some 63, some 64, some 65, some 66, none, some 67, none, none, none, none, none, some 68, some 69, some 70, some 71]), .inl 116, .inl 116, .inl 116, .inl 7, .inl 120, .inl 4, .inl 4, .inl 160, .inl 40]))))
def sh (k : Nat) : ShT := shp.getD k (.inl 0)
theorem shp_len : shp.length = 72 := by decide +kernel
theorem sh_lt {k ci : Nat} {fl : List (Option Nat)} (h : sh k = .inr (ci, fl)) : k < 72 := by
  rcases Nat.lt_or_ge k 72 with q | q
  · exact q
  · unfold sh at h
    rw [List.getD_eq_getElem?_getD, List.getElem?_eq_none (by rw [shp_len]; exact q)] at h
    cases h
theorem sh_ltA {k n : Nat} (h : sh k = .inl n) (hn : 0 < n) : k < 72 := by
  rcases Nat.lt_or_ge k 72 with q | q
  · exact q
  · unfold sh at h
    rw [List.getD_eq_getElem?_getD, List.getElem?_eq_none (by rw [shp_len]; exact q)] at h
    cases h
    omega
def fv (ad : Nat → Nat) (m : Nat → Int32) : Nat → List (Option Nat) → List Value
  | _, [] => []
  | j, o :: t => (match o with | some r => .ref (ad r) | none => .int (m j)) :: fv ad m (j + 1) t
theorem fv_len (ad : Nat → Nat) (m : Nat → Int32) (fl : List (Option Nat)) : ∀ j, (fv ad m j fl).length = fl.length := by
  induction fl with
  | nil => intro j; rfl
  | cons o t ih => intro j; simp [fv, ih]
theorem fv_ref {ad : Nat → Nat} {m : Nat → Int32} {fl : List (Option Nat)} : ∀ {j i r : Nat}, fl[i]? = some (some r) → (fv ad m j fl)[i]? = some (.ref (ad r)) := by
  induction fl with
  | nil => intro j i r h; simp at h
  | cons o t ih =>
    intro j i r h
    cases i with
    | zero => simp at h; subst h; simp [fv]
    | succ i => simp at h; simp [fv, ih h]
theorem fv_int {ad : Nat → Nat} {m : Nat → Int32} {fl : List (Option Nat)} : ∀ {j i : Nat}, fl[i]? = some none → (fv ad m j fl)[i]? = some (.int (m (j + i))) := by
  induction fl with
  | nil => intro j i h; simp at h
  | cons o t ih =>
    intro j i h
    cases i with
    | zero => simp at h; subst h; simp [fv]
    | succ i => simp at h; simp [fv, ih h, Nat.add_assoc, Nat.add_comm 1 i]
theorem fv_congr {ad : Nat → Nat} {m m' : Nat → Int32} {fl : List (Option Nat)} : ∀ {j : Nat}, (∀ i, j ≤ i → m i = m' i) → fv ad m j fl = fv ad m' j fl := by
  induction fl with
  | nil => intro j h; rfl
  | cons o t ih =>
    intro j h
    simp only [fv]
    rw [ih (fun i hi => h i (by omega)), h j (Nat.le_refl j)]
theorem fv_set {ad : Nat → Nat} {m : Nat → Int32} {fl : List (Option Nat)} {v : Int32} : ∀ {j i : Nat}, fl[i]? = some none → (fv ad m j fl).set i (.int v) = fv ad (upd m (j + i) v) j fl := by
  induction fl with
  | nil => intro j i h; simp at h
  | cons o t ih =>
    intro j i h
    cases i with
    | zero =>
      simp at h
      subst h
      simp only [fv, List.set_cons_zero, Nat.add_zero]
      rw [fv_congr (m := m) (m' := upd m j v) (fun i hi => by simp [upd, show i ≠ j by omega])]
      simp [upd]
    | succ i =>
      simp at h
      simp only [fv, List.set_cons_succ]
      rw [ih h, show j + 1 + i = j + (i + 1) by omega]
      cases o with
      | none => simp [upd]
      | some r => rfl
def cE (ad : Nat → Nat) (cI : ClassId) (M : Mem) (k : Nat) : va_E := match sh k with
  | .inl n => .inl (cI, n, .inl (M k))
  | .inr (ci, fl) => .inr (ci, fv ad (M k) 0 fl)
def wsOf (ad : Nat → Nat) (cI : ClassId) (M : Mem) : va_W := (List.range 72).map fun k => (ad k, cE ad cI M k)
theorem ws_at (ad : Nat → Nat) (cI : ClassId) (M : Mem) {k : Nat} (h : k < 72) : (wsOf ad cI M)[k]? = some (ad k, cE ad cI M k) := by
  simp [wsOf, h]
theorem ws_obj (ad : Nat → Nat) (cI : ClassId) (M : Mem) {k ci : Nat} {fl : List (Option Nat)} (h : sh k = .inr (ci, fl)) : (wsOf ad cI M)[k]? = some (ad k, .inr (ci, fv ad (M k) 0 fl)) := by
  rw [ws_at ad cI M (sh_lt h)]
  simp [cE, h]
theorem ws_arr (ad : Nat → Nat) (cI : ClassId) (M : Mem) {k n : Nat} (h : sh k = .inl n) (hn : 0 < n) : (wsOf ad cI M)[k]? = some (ad k, .inl (cI, n, .inl (M k))) := by
  rw [ws_at ad cI M (sh_ltA h hn)]
  simp [cE, h]
/-- one number of the memory is written -/
def ms (M : Mem) (k j : Nat) (v : Int32) : Mem := fun a b => if a = k then (if b = j then v else M a b) else M a b
/-- a whole row is written -/
def mr (M : Mem) (k : Nat) (f : Nat → Int32) : Mem := fun a b => if a = k then f b else M a b
theorem ws_set (ad : Nat → Nat) (cI : ClassId) (M M' : Mem) {k : Nat} (h : k < 72) (hM : ∀ a, a ≠ k → M' a = M a) : (wsOf ad cI M).set k (ad k, cE ad cI M' k) = wsOf ad cI M' := by
  apply List.ext_getElem?
  intro i
  rcases Nat.lt_or_ge i 72 with q | q
  · by_cases e : i = k
    · subst e
      rw [ws_at ad cI M' q, List.getElem?_set_self (by simp [wsOf, q])]
    · rw [List.getElem?_set_ne (fun z => e z.symm), ws_at ad cI M q, ws_at ad cI M' q]
      simp [cE, hM i e]
  · rw [List.getElem?_eq_none (by simp [wsOf]; exact q), List.getElem?_eq_none (by simp [wsOf]; exact q)]
theorem ws_setF (ad : Nat → Nat) (cI : ClassId) (M : Mem) {k ci j : Nat} {fl : List (Option Nat)} {v : Int32} (h : sh k = .inr (ci, fl)) (hf : fl[j]? = some none) : (wsOf ad cI M).set k (ad k, .inr (ci, (fv ad (M k) 0 fl).set j (.int v))) = wsOf ad cI (ms M k j v) := by
  rw [← ws_set ad cI M (ms M k j v) (sh_lt h) (fun a ha => by funext b; simp [ms, ha])]
  congr 2
  simp only [cE, h]
  rw [fv_set hf]
  congr 2
  rw [show ms M k j v k = upd (M k) (0 + j) v from by funext b; simp [ms, upd]]
theorem ws_setA (ad : Nat → Nat) (cI : ClassId) (M : Mem) {k n j : Nat} {v : Int32} (h : sh k = .inl n) (hn : 0 < n) : (wsOf ad cI M).set k (ad k, .inl (cI, n, .inl (upd (M k) j v))) = wsOf ad cI (ms M k j v) := by
  rw [← ws_set ad cI M (ms M k j v) (sh_ltA h hn) (fun a ha => by funext b; simp [ms, ha])]
  congr 2
  simp only [cE, h]
  rw [show ms M k j v k = upd (M k) j v from by funext b; simp [ms, upd]]
theorem ws_setR (ad : Nat → Nat) (cI : ClassId) (M : Mem) {k n : Nat} {f : Nat → Int32} (h : sh k = .inl n) (hn : 0 < n) : (wsOf ad cI M).set k (ad k, .inl (cI, n, .inl f)) = wsOf ad cI (mr M k f) := by
  rw [← ws_set ad cI M (mr M k f) (sh_ltA h hn) (fun a ha => by funext b; simp [mr, ha])]
  congr 2
  simp only [cE, h]
  rw [show mr M k f k = f from by funext b; simp [mr]]
def AA (ad : Nat → Nat) : Nat → Prop := fun q => ∃ k, k < 72 ∧ q = ad k
def Inj (ad : Nat → Nat) : Prop := ∀ i j, i < 72 → j < 72 → ad i = ad j → i = j
theorem ws_D {ad : Nat → Nat} (cI : ClassId) (M : Mem) (h : Inj ad) : va_D (AA ad) (wsOf ad cI M) := by
  have key : ∀ (k : Nat) (q : Nat × va_E), (wsOf ad cI M)[k]? = some q → k < 72 ∧ q.1 = ad k := by
    intro k q hq
    have hk : k < 72 := by
      have := (List.getElem?_eq_some_iff.mp hq).1
      simpa [wsOf] using this
    rw [ws_at ad cI M hk] at hq
    obtain rfl := Option.some.inj hq
    exact ⟨hk, rfl⟩
  refine ⟨fun i j p q hp hq e => ?_, fun k q hq => ⟨k, (key k q hq).1, (key k q hq).2⟩⟩
  have a := key i p hp
  have b := key j q hq
  exact h i j a.1 b.1 (by rw [← a.2, ← b.2]; exact e)
def tr (ad : Nat → Nat) : Value → Value
  | .ref k => .ref (ad k)
  | v => v
theorem tr_cat (ad : Nat → Nat) (v : Value) : (tr ad v).category = v.category := by cases v <;> rfl
theorem tr_sum (ad : Nat → Nat) (st : List Value) : ((st.map (tr ad)).map fun v => v.category).sum = (st.map fun v => v.category).sum := by
  rw [List.map_map]
  congr 1
  exact List.map_congr_left fun v _ => tr_cat ad v
def trL (ad : Nat → Nat) (L : List (Nat × Value)) : List (Nat × Value) := L.map fun q => (q.1, tr ad q.2)
theorem lv_args_tr (ad : Nat → Nat) (vs : List Value) : ∀ i, lv_args i (vs.map (tr ad)) = trL ad (lv_args i vs) := by
  induction vs with
  | nil => intro i; rfl
  | cons v t ih => intro i; simp only [List.map_cons, lv_args, trL, tr_cat, List.map_cons]; rw [ih]; rfl
theorem lg_sl_tr (ad : Nat → Nat) (vs : List Value) : (lg_sl (vs.map (tr ad))).length = (lg_sl vs).length := by
  induction vs with
  | nil => rfl
  | cons v t ih =>
    unfold lg_sl at ih ⊢
    simp only [List.map_cons, List.flatMap_cons, List.length_append, ih, tr_cat]
    split <;> rfl
theorem trL_mem {ad : Nat → Nat} {ls : Array Slot} {nL : Nat} {L : List (Nat × Value)} (h : lv_has ls nL (trL ad L)) {i : Nat} {v : Value} (hi : L.lookup i = some v) : ls[i]? = some (.val (tr ad v)) := by
  have hm : (i, v) ∈ L := by
    clear h
    induction L with
    | nil => simp at hi
    | cons q t ih =>
      obtain ⟨a, b⟩ := q
      rw [List.lookup_cons] at hi
      by_cases e : i = a
      · subst e
        simp at hi
        subst hi
        exact List.mem_cons_self
      · have e1 : (i == a) = false := by simp [e]
        rw [e1] at hi
        exact List.mem_cons_of_mem _ (ih hi)
  exact h.2.2 (i, tr ad v) (List.mem_map.mpr ⟨(i, v), hm, rfl⟩)
/-- String constants of TextReader, by their places: entry of its file, text, bytes -/
def sIdx : List Nat := [38, 47, 53, 55, 79, 104, 106, 121, 123, 125, 127, 129, 131, 133, 135, 137, 139]
def sTx : List String := ["crowd", "heat", "price", "cold", "roast", "at", "minute", "nut", "large", "small", "sweet", "raw", "wormed", "old", "pan", "rim", "heap"]
def sByt : List (List Int32) := [[99, 114, 111, 119, 100], [104, 101, 97, 116], [112, 114, 105, 99, 101], [99, 111, 108, 100], [114, 111, 97, 115, 116], [97, 116], [109, 105, 110, 117, 116, 101], [110, 117, 116], [108, 97, 114, 103, 101], [115, 109, 97, 108, 108], [115, 119, 101, 101, 116], [114, 97, 119], [119, 111, 114, 109, 101, 100], [111, 108, 100], [112, 97, 110], [114, 105, 109], [104, 101, 97, 112]]
def sLen : List Nat := [5, 4, 5, 4, 5, 2, 6, 3, 5, 5, 5, 3, 6, 3, 3, 3, 4]
def SX (ad : Nat → Nat) (U : State) (H : Heap) : Prop := vk_S 17 sLen sByt (fun i => ad (100 + i)) (fun i => ad (200 + i)) (AA ad) U H ∧ (∀ i, i < 17 → vk_R RX7 (sIdx.getD i 0) (sTx.getD i "") (ad (100 + i)) U) ∧ va_Z "java/lang/String" "COMPACT_STRINGS" "Z" (.int 1) (AA ad) U H ∧ (va_Z "jdk/internal/util/Preconditions" "SIOOBE_FORMATTER" "Ljava/util/function/BiFunction;" .null (AA ad) U H ∨ va_Z "jdk/internal/util/Preconditions" "SIOOBE_FORMATTER" "Ljava/util/function/BiFunction;" (.ref (ad 98)) (AA ad) U H) ∧ va_Nw (.methodLinkNest RX7 111 yX8_mostOfRule RX8) U
/-- the world at a method's start -/
def PU (ad : Nat → Nat) (D : va_G) (cI : ClassId) (M : Mem) (U : State) : Prop := va_P D vwCl (wsOf ad cI M) U.heap ∧ va_K D vwCl [(cI, .int)] U ∧ Inj ad ∧ SX ad U U.heap
def CX (md : MD) (p : Program) (s : State) (m : MethodId) (args : Array Value) (meth : Method) (c : Code) (cells slots : Nat) (ad : Nat → Nat) (D : va_G) (cI : ClassId) : Prop :=
  p.tables.exec = Jvm.exec ∧ c.code = md.2.1 ∧ c.maxLocals = md.2.2.1 ∧ s.vm.findClass md.1.cls = some m.cls ∧ (∀ w ∈ TBL, w.before args s = true) ∧ cells ≤ md.2.2.2.2.1.cells ∧ slots ≤ md.2.2.2.2.1.slots ∧ va_K D vwCl [(cI, .int)] s ∧ Inj ad ∧ SX ad s s.heap ∧
  (match md.2.2.2.2.2 with | none => True | some X => va_X (ad 99) X.1 X.2 s s.heap ∧ ad 99 < s.heap.size ∧ ¬ AA ad (ad 99))
def retOK (md : MD) (rv : Option Value) (pc : Nat) : Prop := match rv with
  | none => decode md.2.1 pc = .ok (.return_, 1) ∧ md.2.2.2.1 = none
  | some (.int v) => decode md.2.1 pc = .ok (.ireturn, 1) ∧ ∃ ty, md.2.2.2.1 = some ty ∧ narrow ty (.int v) = .int v
  | some (.long _) => decode md.2.1 pc = .ok (.lreturn, 1) ∧ md.2.2.2.1 = some .long
  | _ => False
def EN (md : MD) (p : Program) (l : Launch) (e : Env) (s : State) (m : MethodId) (args : Array Value) (below : List Frame) (meth : Method) (c : Code) (cells slots : Nat) (Z : State → Prop) (ad : Nat → Nat) (D : va_G) (cI : ClassId) (Q : Option Value → Mem → Prop) : Prop :=
  ∀ (rv : Option Value) (M' : Mem) (H' : Heap) (locs' : List Loc) (pc' : Nat) (ls' : Array Slot), retOK md rv pc' → Q rv M' → va_P D vwCl (wsOf ad cI M') H' → va_S (AA ad) s.heap H' locs' → W p l e md.2.2.2.2.1 s m args below meth c H' locs' cells slots Z (F0 m pc' ls' (rv.map (tr ad)).toList)
/-- from pc, with these locals, this stack and this memory, the method comes to its end with Q -/
def V (md : MD) (pc : Nat) (L : List (Nat × Value)) (st : List Value) (M : Mem) (Q : Option Value → Mem → Prop) : Prop :=
  ∀ (p : Program) (l : Launch) (e : Env) (s : State) (m : MethodId) (args : Array Value) (below : List Frame) (meth : Method) (c : Code) (cells slots : Nat) (Z : State → Prop) (ad : Nat → Nat) (D : va_G) (cI : ClassId),
    CX md p s m args meth c cells slots ad D cI → EN md p l e s m args below meth c cells slots Z ad D cI Q →
    ∀ (H : Heap) (locs : List Loc) (ls : Array Slot), va_P D vwCl (wsOf ad cI M) H → va_S (AA ad) s.heap H locs → lv_has ls md.2.2.1 (trL ad L) →
      W p l e md.2.2.2.2.1 s m args below meth c H locs cells slots Z (F0 m pc ls (st.map (tr ad)))
theorem V.mono {md : MD} {pc : Nat} {L : List (Nat × Value)} {st : List Value} {M : Mem} {Q Q' : Option Value → Mem → Prop} (hQ : ∀ rv M', Q rv M' → Q' rv M') (h : V md pc L st M Q) : V md pc L st M Q' :=
  fun p l e s m args below meth c cells slots Z ad D cI hC hE => h p l e s m args below meth c cells slots Z ad D cI hC (fun rv M' H' locs' pc' ls' a b => hE rv M' H' locs' pc' ls' a (hQ rv M' b))
/-- the locals may be listed otherwise -/
theorem V.loc {md : MD} {pc : Nat} {L L' : List (Nat × Value)} {st : List Value} {M : Mem} {Q : Option Value → Mem → Prop} (hL : ∀ q ∈ L', q ∈ L) (h : V md pc L' st M Q) : V md pc L st M Q :=
  fun p l e s m args below meth c cells slots Z ad D cI hC hE H locs ls hP hS hl => h p l e s m args below meth c cells slots Z ad D cI hC hE H locs ls hP hS ⟨hl.1, hl.2.1, fun q hq => by
    obtain ⟨q', h1, rfl⟩ := List.mem_map.mp hq
    exact hl.2.2 _ (List.mem_map.mpr ⟨q', hL q' h1, rfl⟩)⟩
section VR
variable {md : MD} {pc pc' : Nat} {L L' : List (Nat × Value)} {st : List Value} {M M' : Mem} {Q : Option Value → Mem → Prop}
theorem V.ret {v : Int32} {ty : FieldType} (hd : decode md.2.1 pc = .ok (.ireturn, 1)) (hr : md.2.2.2.1 = some ty) (hn : narrow ty (.int v) = .int v) (h : Q (some (.int v)) M) : V md pc L [.int v] M Q :=
  fun p l e s m args below meth c cells slots Z ad D cI hC hE H locs ls hP hS hl => hE (some (.int v)) M H locs pc ls ⟨hd, ty, hr, hn⟩ h hP hS
theorem V.lret {v : Int64} (hd : decode md.2.1 pc = .ok (.lreturn, 1)) (hr : md.2.2.2.1 = some .long) (h : Q (some (.long v)) M) : V md pc L [.long v] M Q :=
  fun p l e s m args below meth c cells slots Z ad D cI hC hE H locs ls hP hS hl => hE (some (.long v)) M H locs pc ls ⟨hd, hr⟩ h hP hS
theorem V.vret (hd : decode md.2.1 pc = .ok (.return_, 1)) (hr : md.2.2.2.1 = none) (h : Q none M) : V md pc L [] M Q :=
  fun p l e s m args below meth c cells slots Z ad D cI hC hE H locs ls hP hS hl => hE none M H locs pc ls ⟨hd, hr⟩ h hP hS
theorem V.iconst {n : Int} {v : Int32} (hd : decode md.2.1 pc = .ok (.iconst n, 1)) (hv : Int32.ofInt n = v) (hp : pc + 1 = pc') (k : V md pc' L (.int v :: st) M Q) : V md pc L st M Q := by
  subst hp
  intro p l e s m args below meth c cells slots Z ad D cI hC hE H locs ls hP hS hl
  exact lv_iconst hC.1 hC.2.1 hd hv (k p l e s m args below meth c cells slots Z ad D cI hC hE H locs ls hP hS hl)
theorem V.bipush {n : Int} {v : Int32} (hd : decode md.2.1 pc = .ok (.bipush n, 2)) (hv : (Int8.ofInt n).toInt32 = v) (hp : pc + 2 = pc') (k : V md pc' L (.int v :: st) M Q) : V md pc L st M Q := by
  subst hp
  intro p l e s m args below meth c cells slots Z ad D cI hC hE H locs ls hP hS hl
  exact lv_bipush hC.1 hC.2.1 hd hv (k p l e s m args below meth c cells slots Z ad D cI hC hE H locs ls hP hS hl)
theorem V.sipush {n : Int} {v : Int32} (hd : decode md.2.1 pc = .ok (.sipush n, 3)) (hv : (Int16.ofInt n).toInt32 = v) (hp : pc + 3 = pc') (k : V md pc' L (.int v :: st) M Q) : V md pc L st M Q := by
  subst hp
  intro p l e s m args below meth c cells slots Z ad D cI hC hE H locs ls hP hS hl
  exact lv_sipush hC.1 hC.2.1 hd hv (k p l e s m args below meth c cells slots Z ad D cI hC hE H locs ls hP hS hl)
theorem V.lconst {n : Fin 2} {v : Int64} (hd : decode md.2.1 pc = .ok (.lconst n, 1)) (hv : Int64.ofNat (n : Nat) = v) (hp : pc + 1 = pc') (k : V md pc' L (.long v :: st) M Q) : V md pc L st M Q := by
  subst hp
  intro p l e s m args below meth c cells slots Z ad D cI hC hE H locs ls hP hS hl
  exact lv_lconst hC.1 hC.2.1 hd hv (k p l e s m args below meth c cells slots Z ad D cI hC hE H locs ls hP hS hl)
theorem V.ldc {i : Nat} {v : Int32} (hd : decode md.2.1 pc = .ok (.ldc i, 2)) (hv : Cond.constant md.1.cls i v ∈ TBL) (hp : pc + 2 = pc') (k : V md pc' L (.int v :: st) M Q) : V md pc L st M Q := by
  subst hp
  intro p l e s m args below meth c cells slots Z ad D cI hC hE H locs ls hP hS hl
  exact lv_ldc hC.1 hC.2.1 hC.2.2.2.1 (hC.2.2.2.2.1 _ hv) hd (k p l e s m args below meth c cells slots Z ad D cI hC hE H locs ls hP hS hl)
theorem V.ldcw {i : Nat} {v : Int32} (hd : decode md.2.1 pc = .ok (.ldc_w i, 3)) (hv : Cond.constant md.1.cls i v ∈ TBL) (hp : pc + 3 = pc') (k : V md pc' L (.int v :: st) M Q) : V md pc L st M Q := by
  subst hp
  intro p l e s m args below meth c cells slots Z ad D cI hC hE H locs ls hP hS hl
  exact lv_ldcw hC.1 hC.2.1 hC.2.2.2.1 (hC.2.2.2.2.1 _ hv) hd (k p l e s m args below meth c cells slots Z ad D cI hC hE H locs ls hP hS hl)
theorem V.ldc2 {i : Nat} {v : Int64} (hd : decode md.2.1 pc = .ok (.ldc2_w i, 3)) (hv : Cond.constantLong md.1.cls i v ∈ TBL) (hp : pc + 3 = pc') (k : V md pc' L (.long v :: st) M Q) : V md pc L st M Q := by
  subst hp
  intro p l e s m args below meth c cells slots Z ad D cI hC hE H locs ls hP hS hl
  exact lv_ldc2 hC.1 hC.2.1 hC.2.2.2.1 (hC.2.2.2.2.1 _ hv) hd (k p l e s m args below meth c cells slots Z ad D cI hC hE H locs ls hP hS hl)
theorem V.ldcS {j i : Nat} (hd : decode md.2.1 pc = .ok (.ldc j, 2)) (hi : i < 17) (hj : sIdx.getD i 0 = j) (hc : md.1.cls = RX7) (hp : pc + 2 = pc') (k : V md pc' L (.ref (100 + i) :: st) M Q) : V md pc L st M Q := by
  subst hp
  subst hj
  intro p l e s m args below meth c cells slots Z ad D cI hC hE H locs ls hP hS hl
  have h1 := hC.2.2.2.2.2.2.2.2.2.1.2.1 i hi
  exact va_ldcS hC.1 hC.2.1 (by rw [← hc]; exact hC.2.2.2.1) h1 hd (k p l e s m args below meth c cells slots Z ad D cI hC hE H locs ls hP hS hl)
theorem V.iload_n {k : Fin 4} {i : Nat} {x : Int32} (hd : decode md.2.1 pc = .ok (.iload_n k, 1)) (hi : (k : Nat) = i) (hl : L.lookup i = some (.int x)) (hp : pc + 1 = pc') (kk : V md pc' L (.int x :: st) M Q) : V md pc L st M Q := by
  subst hp
  intro p l e s m args below meth c cells slots Z ad D cI hC hE H locs ls hP hS hls
  exact lv_iload_n hC.1 hC.2.1 hd hi (trL_mem hls hl) (kk p l e s m args below meth c cells slots Z ad D cI hC hE H locs ls hP hS hls)
theorem V.iload {i : Nat} {x : Int32} (hd : decode md.2.1 pc = .ok (.iload i, 2)) (hl : L.lookup i = some (.int x)) (hp : pc + 2 = pc') (kk : V md pc' L (.int x :: st) M Q) : V md pc L st M Q := by
  subst hp
  intro p l e s m args below meth c cells slots Z ad D cI hC hE H locs ls hP hS hls
  exact lv_iload hC.1 hC.2.1 hd (trL_mem hls hl) (kk p l e s m args below meth c cells slots Z ad D cI hC hE H locs ls hP hS hls)
theorem V.lload_n {k : Fin 4} {i : Nat} {x : Int64} (hd : decode md.2.1 pc = .ok (.lload_n k, 1)) (hi : (k : Nat) = i) (hl : L.lookup i = some (.long x)) (hp : pc + 1 = pc') (kk : V md pc' L (.long x :: st) M Q) : V md pc L st M Q := by
  subst hp
  intro p l e s m args below meth c cells slots Z ad D cI hC hE H locs ls hP hS hls
  exact lv_lload_n hC.1 hC.2.1 hd hi (trL_mem hls hl) (kk p l e s m args below meth c cells slots Z ad D cI hC hE H locs ls hP hS hls)
theorem V.lload {i : Nat} {x : Int64} (hd : decode md.2.1 pc = .ok (.lload i, 2)) (hl : L.lookup i = some (.long x)) (hp : pc + 2 = pc') (kk : V md pc' L (.long x :: st) M Q) : V md pc L st M Q := by
  subst hp
  intro p l e s m args below meth c cells slots Z ad D cI hC hE H locs ls hP hS hls
  exact lv_lload hC.1 hC.2.1 hd (trL_mem hls hl) (kk p l e s m args below meth c cells slots Z ad D cI hC hE H locs ls hP hS hls)
theorem V.aload_n {k : Fin 4} {i x : Nat} (hd : decode md.2.1 pc = .ok (.aload_n k, 1)) (hi : (k : Nat) = i) (hl : L.lookup i = some (.ref x)) (hp : pc + 1 = pc') (kk : V md pc' L (.ref x :: st) M Q) : V md pc L st M Q := by
  subst hp
  intro p l e s m args below meth c cells slots Z ad D cI hC hE H locs ls hP hS hls
  exact lv_aload_n hC.1 hC.2.1 hd hi (trL_mem hls hl) (kk p l e s m args below meth c cells slots Z ad D cI hC hE H locs ls hP hS hls)
def lsF (L : List (Nat × Value)) (i : Nat) : List (Nat × Value) := L.filter (fun q => !(q.1 == i) && !(q.1 + 1 == i && q.2.category == 2))
theorem lsF_tr (ad : Nat → Nat) (L : List (Nat × Value)) (i : Nat) : (trL ad L).filter (fun q => !(q.1 == i) && !(q.1 + 1 == i && q.2.category == 2)) = trL ad (lsF L i) := by
  unfold trL lsF
  rw [List.filter_map]
  congr 1
  apply List.filter_congr
  intro q _
  simp [tr_cat]
theorem V.istore_n {k : Fin 4} {i : Nat} {x : Int32} (hd : decode md.2.1 pc = .ok (.istore_n k, 1)) (hi : (k : Nat) = i) (hn : i < md.2.2.1) (hL : (i, Value.int x) :: lsF L i = L') (hp : pc + 1 = pc') (kk : V md pc' L' st M Q) : V md pc L (.int x :: st) M Q := by
  subst hp
  subst hL
  intro p l e s m args below meth c cells slots Z ad D cI hC hE H locs ls hP hS hls
  exact lv_istore_n hC.1 hC.2.1 hd hi hls hn (by rw [lsF_tr]; rfl) (fun ls' h' => kk p l e s m args below meth c cells slots Z ad D cI hC hE H locs ls' hP hS h')
theorem V.istore {i : Nat} {x : Int32} (hd : decode md.2.1 pc = .ok (.istore i, 2)) (hn : i < md.2.2.1) (hL : (i, Value.int x) :: lsF L i = L') (hp : pc + 2 = pc') (kk : V md pc' L' st M Q) : V md pc L (.int x :: st) M Q := by
  subst hp
  subst hL
  intro p l e s m args below meth c cells slots Z ad D cI hC hE H locs ls hP hS hls
  exact lv_istore hC.1 hC.2.1 hd hls hn (by rw [lsF_tr]; rfl) (fun ls' h' => kk p l e s m args below meth c cells slots Z ad D cI hC hE H locs ls' hP hS h')
def lsF2 (L : List (Nat × Value)) (i : Nat) : List (Nat × Value) := L.filter (fun q => !(q.1 == i) && (!(q.1 == i + 1) && !(q.1 + 1 == i && q.2.category == 2)))
theorem lsF2_tr (ad : Nat → Nat) (L : List (Nat × Value)) (i : Nat) : (trL ad L).filter (fun q => !(q.1 == i) && (!(q.1 == i + 1) && !(q.1 + 1 == i && q.2.category == 2))) = trL ad (lsF2 L i) := by
  unfold trL lsF2
  rw [List.filter_map]
  congr 1
  apply List.filter_congr
  intro q _
  simp [tr_cat]
theorem V.lstore_n {k : Fin 4} {i : Nat} {x : Int64} (hd : decode md.2.1 pc = .ok (.lstore_n k, 1)) (hi : (k : Nat) = i) (hn : i + 1 < md.2.2.1) (hL : (i, Value.long x) :: lsF2 L i = L') (hp : pc + 1 = pc') (kk : V md pc' L' st M Q) : V md pc L (.long x :: st) M Q := by
  subst hp
  subst hL
  intro p l e s m args below meth c cells slots Z ad D cI hC hE H locs ls hP hS hls
  exact lv_lstore_n hC.1 hC.2.1 hd hi hls hn (by rw [lsF2_tr]; rfl) (fun ls' h' => kk p l e s m args below meth c cells slots Z ad D cI hC hE H locs ls' hP hS h')
theorem V.astore_n {k : Fin 4} {i x : Nat} (hd : decode md.2.1 pc = .ok (.astore_n k, 1)) (hi : (k : Nat) = i) (hn : i < md.2.2.1) (hL : (i, Value.ref x) :: lsF L i = L') (hp : pc + 1 = pc') (kk : V md pc' L' st M Q) : V md pc L (.ref x :: st) M Q := by
  subst hp
  subst hL
  intro p l e s m args below meth c cells slots Z ad D cI hC hE H locs ls hP hS hls
  exact lv_astore_n hC.1 hC.2.1 hd hi hls hn (by rw [lsF_tr]; rfl) (fun ls' h' => kk p l e s m args below meth c cells slots Z ad D cI hC hE H locs ls' hP hS h')
theorem V.iinc {i : Nat} {n : Int} {x v : Int32} (hd : decode md.2.1 pc = .ok (.iinc i n, 3)) (hl : L.lookup i = some (.int x)) (hv : x + Int32.ofInt n = v) (hn : i < md.2.2.1) (hL : (i, Value.int v) :: lsF L i = L') (hp : pc + 3 = pc') (kk : V md pc' L' st M Q) : V md pc L st M Q := by
  subst hp
  subst hL
  intro p l e s m args below meth c cells slots Z ad D cI hC hE H locs ls hP hS hls
  have hm : ∃ k : Nat, (trL ad L)[k]? = some (i, Value.int x) := by
    have : (i, Value.int x) ∈ L := by
      clear hls hd kk
      induction L with
      | nil => simp at hl
      | cons q t ih =>
        obtain ⟨a, b⟩ := q
        rw [List.lookup_cons] at hl
        by_cases e : i = a
        · subst e
          simp at hl
          subst hl
          exact List.mem_cons_self
        · have e1 : (i == a) = false := by simp [e]
          rw [e1] at hl
          exact List.mem_cons_of_mem _ (ih hl)
    exact List.getElem?_of_mem (List.mem_map.mpr ⟨_, this, rfl⟩)
  obtain ⟨k, hk⟩ := hm
  exact lv_iinc hC.1 hC.2.1 hd hls hk hv hn (by rw [lsF_tr]; rfl) (fun ls' h' => kk p l e s m args below meth c cells slots Z ad D cI hC hE H locs ls' hP hS h')
theorem V.goto {off : Int} (hd : decode md.2.1 pc = .ok (.goto off, 3)) (ht : (pc : Int) + off = (pc' : Int)) (k : V md pc' L st M Q) : V md pc L st M Q := by
  intro p l e s m args below meth c cells slots Z ad D cI hC hE H locs ls hP hS hl
  exact lv_goto hC.1 hC.2.1 hd ht (k p l e s m args below meth c cells slots Z ad D cI hC hE H locs ls hP hS hl)
theorem V.iadd {x y v : Int32} (hd : decode md.2.1 pc = .ok (.iadd, 1)) (hv : x + y = v) (hp : pc + 1 = pc') (k : V md pc' L (.int v :: st) M Q) : V md pc L (.int y :: .int x :: st) M Q := by
  subst hp
  subst hv
  intro p l e s m args below meth c cells slots Z ad D cI hC hE H locs ls hP hS hl
  exact lv_iadd hC.1 hC.2.1 hd (k p l e s m args below meth c cells slots Z ad D cI hC hE H locs ls hP hS hl)
theorem V.isub {x y v : Int32} (hd : decode md.2.1 pc = .ok (.isub, 1)) (hv : x - y = v) (hp : pc + 1 = pc') (k : V md pc' L (.int v :: st) M Q) : V md pc L (.int y :: .int x :: st) M Q := by
  subst hp
  subst hv
  intro p l e s m args below meth c cells slots Z ad D cI hC hE H locs ls hP hS hl
  exact lv_isub hC.1 hC.2.1 hd (k p l e s m args below meth c cells slots Z ad D cI hC hE H locs ls hP hS hl)
theorem V.imul {x y v : Int32} (hd : decode md.2.1 pc = .ok (.imul, 1)) (hv : x * y = v) (hp : pc + 1 = pc') (k : V md pc' L (.int v :: st) M Q) : V md pc L (.int y :: .int x :: st) M Q := by
  subst hp
  subst hv
  intro p l e s m args below meth c cells slots Z ad D cI hC hE H locs ls hP hS hl
  exact lv_imul hC.1 hC.2.1 hd (k p l e s m args below meth c cells slots Z ad D cI hC hE H locs ls hP hS hl)
theorem V.iand {x y v : Int32} (hd : decode md.2.1 pc = .ok (.iand, 1)) (hv : x &&& y = v) (hp : pc + 1 = pc') (k : V md pc' L (.int v :: st) M Q) : V md pc L (.int y :: .int x :: st) M Q := by
  subst hp
  subst hv
  intro p l e s m args below meth c cells slots Z ad D cI hC hE H locs ls hP hS hl
  exact lv_iand hC.1 hC.2.1 hd (k p l e s m args below meth c cells slots Z ad D cI hC hE H locs ls hP hS hl)
theorem V.ior {x y v : Int32} (hd : decode md.2.1 pc = .ok (.ior, 1)) (hv : x ||| y = v) (hp : pc + 1 = pc') (k : V md pc' L (.int v :: st) M Q) : V md pc L (.int y :: .int x :: st) M Q := by
  subst hp
  subst hv
  intro p l e s m args below meth c cells slots Z ad D cI hC hE H locs ls hP hS hl
  exact lv_ior hC.1 hC.2.1 hd (k p l e s m args below meth c cells slots Z ad D cI hC hE H locs ls hP hS hl)
theorem V.ixor {x y v : Int32} (hd : decode md.2.1 pc = .ok (.ixor, 1)) (hv : x ^^^ y = v) (hp : pc + 1 = pc') (k : V md pc' L (.int v :: st) M Q) : V md pc L (.int y :: .int x :: st) M Q := by
  subst hp
  subst hv
  intro p l e s m args below meth c cells slots Z ad D cI hC hE H locs ls hP hS hl
  exact lv_ixor hC.1 hC.2.1 hd (k p l e s m args below meth c cells slots Z ad D cI hC hE H locs ls hP hS hl)
theorem V.idiv {x y v : Int32} (hd : decode md.2.1 pc = .ok (.idiv, 1)) (hne : ¬ y = 0) (hv : x / y = v) (hp : pc + 1 = pc') (k : V md pc' L (.int v :: st) M Q) : V md pc L (.int y :: .int x :: st) M Q := by
  subst hp
  subst hv
  intro p l e s m args below meth c cells slots Z ad D cI hC hE H locs ls hP hS hl
  exact lv_idiv hC.1 hC.2.1 hd hne (k p l e s m args below meth c cells slots Z ad D cI hC hE H locs ls hP hS hl)
theorem V.irem {x y v : Int32} (hd : decode md.2.1 pc = .ok (.irem, 1)) (hne : ¬ y = 0) (hv : x - x / y * y = v) (hp : pc + 1 = pc') (k : V md pc' L (.int v :: st) M Q) : V md pc L (.int y :: .int x :: st) M Q := by
  subst hp
  subst hv
  intro p l e s m args below meth c cells slots Z ad D cI hC hE H locs ls hP hS hl
  exact lv_irem hC.1 hC.2.1 hd hne (k p l e s m args below meth c cells slots Z ad D cI hC hE H locs ls hP hS hl)
theorem V.ladd {x y v : Int64} (hd : decode md.2.1 pc = .ok (.ladd, 1)) (hv : x + y = v) (hp : pc + 1 = pc') (k : V md pc' L (.long v :: st) M Q) : V md pc L (.long y :: .long x :: st) M Q := by
  subst hp
  subst hv
  intro p l e s m args below meth c cells slots Z ad D cI hC hE H locs ls hP hS hl
  exact lv_ladd hC.1 hC.2.1 hd (k p l e s m args below meth c cells slots Z ad D cI hC hE H locs ls hP hS hl)
theorem V.lmul {x y v : Int64} (hd : decode md.2.1 pc = .ok (.lmul, 1)) (hv : x * y = v) (hp : pc + 1 = pc') (k : V md pc' L (.long v :: st) M Q) : V md pc L (.long y :: .long x :: st) M Q := by
  subst hp
  subst hv
  intro p l e s m args below meth c cells slots Z ad D cI hC hE H locs ls hP hS hl
  exact lv_lmul hC.1 hC.2.1 hd (k p l e s m args below meth c cells slots Z ad D cI hC hE H locs ls hP hS hl)
theorem V.lcmp {x y : Int64} (hd : decode md.2.1 pc = .ok (.lcmp, 1)) (hp : pc + 1 = pc') (k : V md pc' L (.int (lg_cmp x y) :: st) M Q) : V md pc L (.long y :: .long x :: st) M Q := by
  subst hp
  intro p l e s m args below meth c cells slots Z ad D cI hC hE H locs ls hP hS hl
  exact W.lcmp hC.1 hC.2.1 hd (k p l e s m args below meth c cells slots Z ad D cI hC hE H locs ls hP hS hl)
theorem V.ineg {x : Int32} {v : Int32} (hd : decode md.2.1 pc = .ok (.ineg, 1)) (hv : -x = v) (hp : pc + 1 = pc') (k : V md pc' L (.int v :: st) M Q) : V md pc L (.int x :: st) M Q := by
  subst hp
  subst hv
  intro p l e s m args below meth c cells slots Z ad D cI hC hE H locs ls hP hS hl
  exact lv_ineg hC.1 hC.2.1 hd (k p l e s m args below meth c cells slots Z ad D cI hC hE H locs ls hP hS hl)
theorem V.i2l {x : Int32} {v : Int64} (hd : decode md.2.1 pc = .ok (.i2l, 1)) (hv : x.toInt64 = v) (hp : pc + 1 = pc') (k : V md pc' L (.long v :: st) M Q) : V md pc L (.int x :: st) M Q := by
  subst hp
  subst hv
  intro p l e s m args below meth c cells slots Z ad D cI hC hE H locs ls hP hS hl
  exact lv_i2l hC.1 hC.2.1 hd rfl (k p l e s m args below meth c cells slots Z ad D cI hC hE H locs ls hP hS hl)
theorem V.i2b {x : Int32} {v : Int32} (hd : decode md.2.1 pc = .ok (.i2b, 1)) (hv : x.toInt8.toInt32 = v) (hp : pc + 1 = pc') (k : V md pc' L (.int v :: st) M Q) : V md pc L (.int x :: st) M Q := by
  subst hp
  subst hv
  intro p l e s m args below meth c cells slots Z ad D cI hC hE H locs ls hP hS hl
  exact lv_i2b hC.1 hC.2.1 hd rfl (k p l e s m args below meth c cells slots Z ad D cI hC hE H locs ls hP hS hl)
theorem V.i2s {x : Int32} {v : Int32} (hd : decode md.2.1 pc = .ok (.i2s, 1)) (hv : x.toInt16.toInt32 = v) (hp : pc + 1 = pc') (k : V md pc' L (.int v :: st) M Q) : V md pc L (.int x :: st) M Q := by
  subst hp
  subst hv
  intro p l e s m args below meth c cells slots Z ad D cI hC hE H locs ls hP hS hl
  exact lv_i2s hC.1 hC.2.1 hd rfl (k p l e s m args below meth c cells slots Z ad D cI hC hE H locs ls hP hS hl)
theorem V.ishl {x y v : Int32} (hd : decode md.2.1 pc = .ok (.ishl, 1)) (hv : x <<< (y &&& 31) = v) (hp : pc + 1 = pc') (k : V md pc' L (.int v :: st) M Q) : V md pc L (.int y :: .int x :: st) M Q := by
  subst hp
  subst hv
  intro p l e s m args below meth c cells slots Z ad D cI hC hE H locs ls hP hS hl
  exact lv_ishl hC.1 hC.2.1 hd (k p l e s m args below meth c cells slots Z ad D cI hC hE H locs ls hP hS hl)
theorem V.ishr {x y v : Int32} (hd : decode md.2.1 pc = .ok (.ishr, 1)) (hv : x >>> (y &&& 31) = v) (hp : pc + 1 = pc') (k : V md pc' L (.int v :: st) M Q) : V md pc L (.int y :: .int x :: st) M Q := by
  subst hp
  subst hv
  intro p l e s m args below meth c cells slots Z ad D cI hC hE H locs ls hP hS hl
  exact lv_ishr hC.1 hC.2.1 hd (k p l e s m args below meth c cells slots Z ad D cI hC hE H locs ls hP hS hl)
theorem V.iushr {x y v : Int32} (hd : decode md.2.1 pc = .ok (.iushr, 1)) (hv : (x.toUInt32 >>> (y.toUInt32 &&& Int32.toUInt32 31)).toInt32 = v) (hp : pc + 1 = pc') (k : V md pc' L (.int v :: st) M Q) : V md pc L (.int y :: .int x :: st) M Q := by
  subst hp
  intro p l e s m args below meth c cells slots Z ad D cI hC hE H locs ls hP hS hl
  exact lv_iushr hC.1 hC.2.1 hd hv (k p l e s m args below meth c cells slots Z ad D cI hC hE H locs ls hP hS hl)
theorem V.dup {v : Value} (hd : decode md.2.1 pc = .ok (.dup, 1)) (hc : v.category = 1) (hp : pc + 1 = pc') (k : V md pc' L (v :: v :: st) M Q) : V md pc L (v :: st) M Q := by
  subst hp
  intro p l e s m args below meth c cells slots Z ad D cI hC hE H locs ls hP hS hl
  exact lv_dup hC.1 hC.2.1 hd (by rw [tr_cat]; exact hc) (k p l e s m args below meth c cells slots Z ad D cI hC hE H locs ls hP hS hl)
theorem V.pop {v : Value} (hd : decode md.2.1 pc = .ok (.pop, 1)) (hc : v.category = 1) (hp : pc + 1 = pc') (k : V md pc' L st M Q) : V md pc L (v :: st) M Q := by
  subst hp
  intro p l e s m args below meth c cells slots Z ad D cI hC hE H locs ls hP hS hl
  exact lv_pop hC.1 hC.2.1 hd (by rw [tr_cat]; exact hc) (k p l e s m args below meth c cells slots Z ad D cI hC hE H locs ls hP hS hl)
theorem V.dup2 {v w : Value} (hd : decode md.2.1 pc = .ok (.dup2, 1)) (hv : v.category = 1) (hw : w.category = 1) (hp : pc + 1 = pc') (k : V md pc' L (v :: w :: v :: w :: st) M Q) : V md pc L (v :: w :: st) M Q := by
  subst hp
  intro p l e s m args below meth c cells slots Z ad D cI hC hE H locs ls hP hS hl
  exact lv_dup2_11 hC.1 hC.2.1 hd (by rw [tr_cat]; exact hv) (by rw [tr_cat]; exact hw) (k p l e s m args below meth c cells slots Z ad D cI hC hE H locs ls hP hS hl)
theorem V.dup_x1 {v w : Value} (hd : decode md.2.1 pc = .ok (.dup_x1, 1)) (hv : v.category = 1) (hw : w.category = 1) (hp : pc + 1 = pc') (k : V md pc' L (v :: w :: v :: st) M Q) : V md pc L (v :: w :: st) M Q := by
  subst hp
  intro p l e s m args below meth c cells slots Z ad D cI hC hE H locs ls hP hS hl
  exact lv_dup_x1 hC.1 hC.2.1 hd (by rw [tr_cat]; exact hv) (by rw [tr_cat]; exact hw) (k p l e s m args below meth c cells slots Z ad D cI hC hE H locs ls hP hS hl)
theorem V.if_eq {x : Int32} {off : Int} {tgt : Nat} (hd : decode md.2.1 pc = .ok (.ifCond .eq off, 3)) (ht : (pc : Int) + off = (tgt : Int)) (hp : pc + 3 = pc') (kt : x = 0 → V md tgt L st M Q) (kf : ¬ x = 0 → V md pc' L st M Q) : V md pc L (.int x :: st) M Q := by
  subst hp
  intro p l e s m args below meth c cells slots Z ad D cI hC hE H locs ls hP hS hl
  exact lv_if_eq hC.1 hC.2.1 hd ht (fun q => kt q p l e s m args below meth c cells slots Z ad D cI hC hE H locs ls hP hS hl) (fun q => kf q p l e s m args below meth c cells slots Z ad D cI hC hE H locs ls hP hS hl)
theorem V.icmp_eq {x y : Int32} {off : Int} {tgt : Nat} (hd : decode md.2.1 pc = .ok (.if_icmp .eq off, 3)) (ht : (pc : Int) + off = (tgt : Int)) (hp : pc + 3 = pc') (kt : x = y → V md tgt L st M Q) (kf : ¬ x = y → V md pc' L st M Q) : V md pc L (.int y :: .int x :: st) M Q := by
  subst hp
  intro p l e s m args below meth c cells slots Z ad D cI hC hE H locs ls hP hS hl
  exact lv_icmp_eq hC.1 hC.2.1 hd ht (fun q => kt q p l e s m args below meth c cells slots Z ad D cI hC hE H locs ls hP hS hl) (fun q => kf q p l e s m args below meth c cells slots Z ad D cI hC hE H locs ls hP hS hl)
theorem V.if_ne {x : Int32} {off : Int} {tgt : Nat} (hd : decode md.2.1 pc = .ok (.ifCond .ne off, 3)) (ht : (pc : Int) + off = (tgt : Int)) (hp : pc + 3 = pc') (kt : ¬ x = 0 → V md tgt L st M Q) (kf : x = 0 → V md pc' L st M Q) : V md pc L (.int x :: st) M Q := by
  subst hp
  intro p l e s m args below meth c cells slots Z ad D cI hC hE H locs ls hP hS hl
  exact lv_if_ne hC.1 hC.2.1 hd ht (fun q => kt q p l e s m args below meth c cells slots Z ad D cI hC hE H locs ls hP hS hl) (fun q => kf q p l e s m args below meth c cells slots Z ad D cI hC hE H locs ls hP hS hl)
theorem V.icmp_ne {x y : Int32} {off : Int} {tgt : Nat} (hd : decode md.2.1 pc = .ok (.if_icmp .ne off, 3)) (ht : (pc : Int) + off = (tgt : Int)) (hp : pc + 3 = pc') (kt : ¬ x = y → V md tgt L st M Q) (kf : x = y → V md pc' L st M Q) : V md pc L (.int y :: .int x :: st) M Q := by
  subst hp
  intro p l e s m args below meth c cells slots Z ad D cI hC hE H locs ls hP hS hl
  exact lv_icmp_ne hC.1 hC.2.1 hd ht (fun q => kt q p l e s m args below meth c cells slots Z ad D cI hC hE H locs ls hP hS hl) (fun q => kf q p l e s m args below meth c cells slots Z ad D cI hC hE H locs ls hP hS hl)
theorem V.if_lt {x : Int32} {off : Int} {tgt : Nat} (hd : decode md.2.1 pc = .ok (.ifCond .lt off, 3)) (ht : (pc : Int) + off = (tgt : Int)) (hp : pc + 3 = pc') (kt : x < 0 → V md tgt L st M Q) (kf : ¬ x < 0 → V md pc' L st M Q) : V md pc L (.int x :: st) M Q := by
  subst hp
  intro p l e s m args below meth c cells slots Z ad D cI hC hE H locs ls hP hS hl
  exact lv_if_lt hC.1 hC.2.1 hd ht (fun q => kt q p l e s m args below meth c cells slots Z ad D cI hC hE H locs ls hP hS hl) (fun q => kf q p l e s m args below meth c cells slots Z ad D cI hC hE H locs ls hP hS hl)
theorem V.icmp_lt {x y : Int32} {off : Int} {tgt : Nat} (hd : decode md.2.1 pc = .ok (.if_icmp .lt off, 3)) (ht : (pc : Int) + off = (tgt : Int)) (hp : pc + 3 = pc') (kt : x < y → V md tgt L st M Q) (kf : ¬ x < y → V md pc' L st M Q) : V md pc L (.int y :: .int x :: st) M Q := by
  subst hp
  intro p l e s m args below meth c cells slots Z ad D cI hC hE H locs ls hP hS hl
  exact lv_icmp_lt hC.1 hC.2.1 hd ht (fun q => kt q p l e s m args below meth c cells slots Z ad D cI hC hE H locs ls hP hS hl) (fun q => kf q p l e s m args below meth c cells slots Z ad D cI hC hE H locs ls hP hS hl)
theorem V.if_ge {x : Int32} {off : Int} {tgt : Nat} (hd : decode md.2.1 pc = .ok (.ifCond .ge off, 3)) (ht : (pc : Int) + off = (tgt : Int)) (hp : pc + 3 = pc') (kt : 0 ≤ x → V md tgt L st M Q) (kf : ¬ 0 ≤ x → V md pc' L st M Q) : V md pc L (.int x :: st) M Q := by
  subst hp
  intro p l e s m args below meth c cells slots Z ad D cI hC hE H locs ls hP hS hl
  exact lv_if_ge hC.1 hC.2.1 hd ht (fun q => kt q p l e s m args below meth c cells slots Z ad D cI hC hE H locs ls hP hS hl) (fun q => kf q p l e s m args below meth c cells slots Z ad D cI hC hE H locs ls hP hS hl)
theorem V.icmp_ge {x y : Int32} {off : Int} {tgt : Nat} (hd : decode md.2.1 pc = .ok (.if_icmp .ge off, 3)) (ht : (pc : Int) + off = (tgt : Int)) (hp : pc + 3 = pc') (kt : y ≤ x → V md tgt L st M Q) (kf : ¬ y ≤ x → V md pc' L st M Q) : V md pc L (.int y :: .int x :: st) M Q := by
  subst hp
  intro p l e s m args below meth c cells slots Z ad D cI hC hE H locs ls hP hS hl
  exact lv_icmp_ge hC.1 hC.2.1 hd ht (fun q => kt q p l e s m args below meth c cells slots Z ad D cI hC hE H locs ls hP hS hl) (fun q => kf q p l e s m args below meth c cells slots Z ad D cI hC hE H locs ls hP hS hl)
theorem V.if_gt {x : Int32} {off : Int} {tgt : Nat} (hd : decode md.2.1 pc = .ok (.ifCond .gt off, 3)) (ht : (pc : Int) + off = (tgt : Int)) (hp : pc + 3 = pc') (kt : 0 < x → V md tgt L st M Q) (kf : ¬ 0 < x → V md pc' L st M Q) : V md pc L (.int x :: st) M Q := by
  subst hp
  intro p l e s m args below meth c cells slots Z ad D cI hC hE H locs ls hP hS hl
  exact lv_if_gt hC.1 hC.2.1 hd ht (fun q => kt q p l e s m args below meth c cells slots Z ad D cI hC hE H locs ls hP hS hl) (fun q => kf q p l e s m args below meth c cells slots Z ad D cI hC hE H locs ls hP hS hl)
theorem V.icmp_gt {x y : Int32} {off : Int} {tgt : Nat} (hd : decode md.2.1 pc = .ok (.if_icmp .gt off, 3)) (ht : (pc : Int) + off = (tgt : Int)) (hp : pc + 3 = pc') (kt : y < x → V md tgt L st M Q) (kf : ¬ y < x → V md pc' L st M Q) : V md pc L (.int y :: .int x :: st) M Q := by
  subst hp
  intro p l e s m args below meth c cells slots Z ad D cI hC hE H locs ls hP hS hl
  exact lv_icmp_gt hC.1 hC.2.1 hd ht (fun q => kt q p l e s m args below meth c cells slots Z ad D cI hC hE H locs ls hP hS hl) (fun q => kf q p l e s m args below meth c cells slots Z ad D cI hC hE H locs ls hP hS hl)
theorem V.if_le {x : Int32} {off : Int} {tgt : Nat} (hd : decode md.2.1 pc = .ok (.ifCond .le off, 3)) (ht : (pc : Int) + off = (tgt : Int)) (hp : pc + 3 = pc') (kt : x ≤ 0 → V md tgt L st M Q) (kf : ¬ x ≤ 0 → V md pc' L st M Q) : V md pc L (.int x :: st) M Q := by
  subst hp
  intro p l e s m args below meth c cells slots Z ad D cI hC hE H locs ls hP hS hl
  exact lv_if_le hC.1 hC.2.1 hd ht (fun q => kt q p l e s m args below meth c cells slots Z ad D cI hC hE H locs ls hP hS hl) (fun q => kf q p l e s m args below meth c cells slots Z ad D cI hC hE H locs ls hP hS hl)
theorem V.icmp_le {x y : Int32} {off : Int} {tgt : Nat} (hd : decode md.2.1 pc = .ok (.if_icmp .le off, 3)) (ht : (pc : Int) + off = (tgt : Int)) (hp : pc + 3 = pc') (kt : x ≤ y → V md tgt L st M Q) (kf : ¬ x ≤ y → V md pc' L st M Q) : V md pc L (.int y :: .int x :: st) M Q := by
  subst hp
  intro p l e s m args below meth c cells slots Z ad D cI hC hE H locs ls hP hS hl
  exact lv_icmp_le hC.1 hC.2.1 hd ht (fun q => kt q p l e s m args below meth c cells slots Z ad D cI hC hE H locs ls hP hS hl) (fun q => kf q p l e s m args below meth c cells slots Z ad D cI hC hE H locs ls hP hS hl)
theorem V.tabIn {dflt lo hi : Int} {offs : Array Int} {len : Nat} {x : Int32} {off : Int} (hd : decode md.2.1 pc = .ok (.tableswitch dflt lo hi offs, len)) (h1 : ¬ x.toInt < lo) (h2 : ¬ hi < x.toInt) (ho : offs[(x.toInt - lo).toNat]? = some off) (ht : (pc : Int) + off = (pc' : Int)) (k : V md pc' L st M Q) : V md pc L (.int x :: st) M Q := by
  intro p l e s m args below meth c cells slots Z ad D cI hC hE H locs ls hP hS hl
  exact lv_tableIn hC.1 hC.2.1 hd h1 h2 ho ht (k p l e s m args below meth c cells slots Z ad D cI hC hE H locs ls hP hS hl)
theorem V.tabOut {dflt lo hi : Int} {offs : Array Int} {len : Nat} {x : Int32} (hd : decode md.2.1 pc = .ok (.tableswitch dflt lo hi offs, len)) (h : x.toInt < lo ∨ hi < x.toInt) (ht : (pc : Int) + dflt = (pc' : Int)) (k : V md pc' L st M Q) : V md pc L (.int x :: st) M Q := by
  intro p l e s m args below meth c cells slots Z ad D cI hC hE H locs ls hP hS hl
  exact lv_tableOut hC.1 hC.2.1 hd h ht (k p l e s m args below meth c cells slots Z ad D cI hC hE H locs ls hP hS hl)
theorem V.lookup {dflt : Int} {ps : Array (Int × Int)} {len : Nat} {x : Int32} {off : Int} (hd : decode md.2.1 pc = .ok (.lookupswitch dflt ps, len)) (hp : (ps.toList.zip (ps.toList.drop 1)).all (fun (a, next) => a.1 < next.1) = true) (ho : Op.lookupswitch.offset ps.toList dflt x.toInt = off) (ht : (pc : Int) + off = (pc' : Int)) (k : V md pc' L st M Q) : V md pc L (.int x :: st) M Q := by
  intro p l e s m args below meth c cells slots Z ad D cI hC hE H locs ls hP hS hl
  exact lv_lookup hC.1 hC.2.1 hd hp ho ht (k p l e s m args below meth c cells slots Z ad D cI hC hE H locs ls hP hS hl)
end VR
/-- what the tables say of a class of the world: its place, its fields -/
def CLS (ci : Nat) (C : String) (T : u_T) (N : Nat) : Prop := vwCl[ci]? = some (C, T, N) ∧ (∀ w ∈ u_ws C T N, w ∈ TBL) ∧ (∃ ty0 : Nat → FieldType, ∀ k, k < N → parseFieldDescriptor (T k).2.2.1 = some (ty0 k)) ∧ ∀ a, a < N → ∀ b, b < N → a ≠ b → (T a).2.1 ≠ (T b).2.1
def FG (own : String) (idx ci j : Nat) : Prop := ∃ (C : String) (T : u_T) (N : Nat), CLS ci C T N ∧ j < N ∧ Cond.fieldLink own idx (T j).1 (T j).2.1 (T j).2.2.1 ∈ TBL
def FP (own : String) (idx ci j : Nat) (ty : FieldType) : Prop := ∃ (C : String) (T : u_T) (N : Nat), CLS ci C T N ∧ j < N ∧ Cond.fieldLink own idx (T j).1 (T j).2.1 (T j).2.2.1 ∈ TBL ∧ (T j).2.2.2 = false ∧ parseFieldDescriptor (T j).2.2.1 = some ty
section VF
variable {md : MD} {pc pc' : Nat} {L : List (Nat × Value)} {st : List Value} {M M' : Mem} {Q : Option Value → Mem → Prop}
theorem V.getr {k ci j r idx : Nat} {fl : List (Option Nat)} (hd : decode md.2.1 pc = .ok (.getfield idx, 3)) (hF : FG md.1.cls idx ci j) (hs : sh k = .inr (ci, fl)) (hf : fl[j]? = some (some r)) (hp : pc + 3 = pc') (kk : V md pc' L (.ref r :: st) M Q) : V md pc L (.ref k :: st) M Q := by
  subst hp
  intro p l e s m args below meth c cells slots Z ad D cI hC hE H locs ls hP hS hl
  obtain ⟨C, T, N, hcl, hj, hlink⟩ := hF
  exact va_get (C := C) (T := T) (N := N) (ci := ci) (D := D) (cl := vwCl) (tys := [(cI, .int)]) (ws := wsOf ad cI M) hC.1 hC.2.1 hC.2.2.2.2.1 hcl.2.1 hC.2.2.2.1 hC.2.2.2.2.2.2.2.1 hP k (ws_obj ad cI M hs) hcl.1 j hj (hC.2.2.2.2.1 _ hlink) (fun _ h9 => h9) (fv_ref hf) hd (kk p l e s m args below meth c cells slots Z ad D cI hC hE H locs ls hP hS hl)
theorem V.geti {k ci j idx : Nat} {fl : List (Option Nat)} {v : Int32} (hd : decode md.2.1 pc = .ok (.getfield idx, 3)) (hF : FG md.1.cls idx ci j) (hs : sh k = .inr (ci, fl)) (hf : fl[j]? = some none) (hv : M k j = v) (hp : pc + 3 = pc') (kk : V md pc' L (.int v :: st) M Q) : V md pc L (.ref k :: st) M Q := by
  subst hp
  intro p l e s m args below meth c cells slots Z ad D cI hC hE H locs ls hP hS hl
  obtain ⟨C, T, N, hcl, hj, hlink⟩ := hF
  exact va_get (C := C) (T := T) (N := N) (ci := ci) (D := D) (cl := vwCl) (tys := [(cI, .int)]) (ws := wsOf ad cI M) hC.1 hC.2.1 hC.2.2.2.2.1 hcl.2.1 hC.2.2.2.1 hC.2.2.2.2.2.2.2.1 hP k (ws_obj ad cI M hs) hcl.1 j hj (hC.2.2.2.2.1 _ hlink) (fun _ h9 => h9) (v := .int v) (by rw [fv_int hf, Nat.zero_add, hv]) hd (kk p l e s m args below meth c cells slots Z ad D cI hC hE H locs ls hP hS hl)
theorem V.puti {k ci j idx : Nat} {fl : List (Option Nat)} {v : Int32} {ty : FieldType} (hd : decode md.2.1 pc = .ok (.putfield idx, 3)) (hF : FP md.1.cls idx ci j ty) (hs : sh k = .inr (ci, fl)) (hf : fl[j]? = some none) (hn : narrow ty (.int v) = .int v) (hfit : fits ty (.int v) = true) (hM : ms M k j v = M') (hp : pc + 3 = pc') (kk : V md pc' L st M' Q) : V md pc L (.int v :: .ref k :: st) M Q := by
  subst hp
  subst hM
  intro p l e s m args below meth c cells slots Z ad D cI hC hE H locs ls hP hS hl
  obtain ⟨C, T, N, hcl, hj, hlink, hfin, hpar⟩ := hF
  obtain ⟨ty0, hty⟩ := hcl.2.2.1
  refine va_put (C := C) (T := T) (N := N) (ci := ci) (D := D) (cl := vwCl) (tys := [(cI, .int)]) (ws := wsOf ad cI M) (v := .int v) hC.1 hC.2.1 hC.2.2.2.2.1 hcl.2.1 ty0 hty hcl.2.2.2 hC.2.2.2.1 hC.2.2.2.2.2.2.2.1 hP (ws_D cI M hC.2.2.2.2.2.2.2.2.1) hS k (ws_obj ad cI M hs) hcl.1 j hj (hC.2.2.2.2.1 _ hlink) (fun _ h9 => h9) hfin hpar hn hfit (by rw [fv_len]; exact (List.getElem?_eq_some_iff.mp hf).1) hd (fun H1 locs1 hP1 hD1 hS1 => ?_)
  rw [ws_setF ad cI M hs hf] at hP1
  exact kk p l e s m args below meth c cells slots Z ad D cI hC hE H1 locs1 ls hP1 hS1 hl
theorem V.iald {k n : Nat} {i v : Int32} (hd : decode md.2.1 pc = .ok (.iaload, 1)) (hs : sh k = .inl n) (hn : 0 < n) (hin : vp_in i n) (hv : M k i.toNatClampNeg = v) (hp : pc + 1 = pc') (kk : V md pc' L (.int v :: st) M Q) : V md pc L (.int i :: .ref k :: st) M Q := by
  subst hp
  subst hv
  intro p l e s m args below meth c cells slots Z ad D cI hC hE H locs ls hP hS hl
  exact va_iald hC.1 hC.2.1 hC.2.2.2.2.2.2.2.1 hP k 0 (ws_arr ad cI M hs hn) rfl hin hd (kk p l e s m args below meth c cells slots Z ad D cI hC hE H locs ls hP hS hl)
theorem V.iast {k n : Nat} {i x : Int32} (hd : decode md.2.1 pc = .ok (.iastore, 1)) (hs : sh k = .inl n) (hn : 0 < n) (hin : vp_in i n) (hM : ms M k i.toNatClampNeg x = M') (hp : pc + 1 = pc') (kk : V md pc' L st M' Q) : V md pc L (.int x :: .int i :: .ref k :: st) M Q := by
  subst hp
  subst hM
  intro p l e s m args below meth c cells slots Z ad D cI hC hE H locs ls hP hS hl
  refine va_iast hC.1 hC.2.1 hC.2.2.2.2.2.2.2.1 hP (ws_D cI M hC.2.2.2.2.2.2.2.2.1) hS k 0 (ws_arr ad cI M hs hn) rfl hin hd (fun H1 locs1 hP1 hD1 hS1 => ?_)
  rw [ws_setA ad cI M hs hn] at hP1
  exact kk p l e s m args below meth c cells slots Z ad D cI hC hE H1 locs1 ls hP1 hS1 hl
/-- the script -/
theorem V.sald {X : Nat × (Nat → Int32)} {i v : Int32} (hX : md.2.2.2.2.2 = some X) (hd : decode md.2.1 pc = .ok (.iaload, 1)) (hin : vp_in i X.1) (hv : X.2 i.toNatClampNeg = v) (hp : pc + 1 = pc') (kk : V md pc' L (.int v :: st) M Q) : V md pc L (.int i :: .ref 99 :: st) M Q := by
  subst hp
  subst hv
  intro p l e s m args below meth c cells slots Z ad D cI hC hE H locs ls hP hS hl
  have hx := hC.2.2.2.2.2.2.2.2.2.2
  rw [hX] at hx
  exact va_sld hC.1 hC.2.1 hx.1 hx.2.1 hx.2.2 hS hin hd (kk p l e s m args below meth c cells slots Z ad D cI hC hE H locs ls hP hS hl)
theorem V.slen {X : Nat × (Nat → Int32)} (hX : md.2.2.2.2.2 = some X) (hd : decode md.2.1 pc = .ok (.arraylength, 1)) (hp : pc + 1 = pc') (kk : V md pc' L (.int (nI X.1) :: st) M Q) : V md pc L (.ref 99 :: st) M Q := by
  subst hp
  intro p l e s m args below meth c cells slots Z ad D cI hC hE H locs ls hP hS hl
  have hx := hC.2.2.2.2.2.2.2.2.2.2
  rw [hX] at hx
  exact va_slen hC.1 hC.2.1 hx.1 hx.2.1 hx.2.2 hS hd (kk p l e s m args below meth c cells slots Z ad D cI hC hE H locs ls hP hS hl)
/-- Strings: their fields, their bytes, the two statics -/
theorem V.gsv {i idx : Nat} (hi : i < 17) (hd : decode md.2.1 pc = .ok (.getfield idx, 3)) (hlink : Cond.fieldLink md.1.cls idx "java/lang/String" "value" "[B" ∈ TBL) (hp : pc + 3 = pc') (kk : V md pc' L (.ref (200 + i) :: st) M Q) : V md pc L (.ref (100 + i) :: st) M Q := by
  subst hp
  intro p l e s m args below meth c cells slots Z ad D cI hC hE H locs ls hP hS hl
  exact vk_getf hC.1 hC.2.1 (hC.2.2.2.2.2.2.2.2.2.1.1.1 i hi).2.2.1 hS hC.2.2.2.1 (hC.2.2.2.2.1 _ hlink) (fun _ h9 => h9) hd (kk p l e s m args below meth c cells slots Z ad D cI hC hE H locs ls hP hS hl)
theorem V.gsc {i idx : Nat} (hi : i < 17) (hd : decode md.2.1 pc = .ok (.getfield idx, 3)) (hlink : Cond.fieldLink md.1.cls idx "java/lang/String" "coder" "B" ∈ TBL) (hp : pc + 3 = pc') (kk : V md pc' L (.int 0 :: st) M Q) : V md pc L (.ref (100 + i) :: st) M Q := by
  subst hp
  intro p l e s m args below meth c cells slots Z ad D cI hC hE H locs ls hP hS hl
  exact vk_getf hC.1 hC.2.1 (hC.2.2.2.2.2.2.2.2.2.1.1.1 i hi).2.1 hS hC.2.2.2.1 (hC.2.2.2.2.1 _ hlink) (fun _ h9 => h9) hd (kk p l e s m args below meth c cells slots Z ad D cI hC hE H locs ls hP hS hl)
theorem V.bald {i : Nat} {j v : Int32} (hi : i < 17) (hd : decode md.2.1 pc = .ok (.baload, 1)) (hin : vp_in j (sLen.getD i 0)) (hv : (sByt.getD i []).getD j.toNatClampNeg 0 = v) (hp : pc + 1 = pc') (kk : V md pc' L (.int v :: st) M Q) : V md pc L (.int j :: .ref (200 + i) :: st) M Q := by
  subst hp
  subst hv
  intro p l e s m args below meth c cells slots Z ad D cI hC hE H locs ls hP hS hl
  exact va_tb hC.1 hC.2.1 (hC.2.2.2.2.2.2.2.2.2.1.1.1 i hi).2.2.2 hS hin rfl hd (kk p l e s m args below meth c cells slots Z ad D cI hC hE H locs ls hP hS hl)
theorem V.blen {i : Nat} {v : Int32} (hi : i < 17) (hd : decode md.2.1 pc = .ok (.arraylength, 1)) (hv : Int32.ofNat (sLen.getD i 0) = v) (hp : pc + 1 = pc') (kk : V md pc' L (.int v :: st) M Q) : V md pc L (.ref (200 + i) :: st) M Q := by
  subst hp
  intro p l e s m args below meth c cells slots Z ad D cI hC hE H locs ls hP hS hl
  exact va_tlen hC.1 hC.2.1 (hC.2.2.2.2.2.2.2.2.2.1.1.1 i hi).2.2.2 hS hv hd (kk p l e s m args below meth c cells slots Z ad D cI hC hE H locs ls hP hS hl)
theorem V.gets {idx : Nat} (hd : decode md.2.1 pc = .ok (.getstatic idx, 3)) (hlink : Cond.fieldLink md.1.cls idx "java/lang/String" "COMPACT_STRINGS" "Z" ∈ TBL) (hp : pc + 3 = pc') (kk : V md pc' L (.int 1 :: st) M Q) : V md pc L st M Q := by
  subst hp
  intro p l e s m args below meth c cells slots Z ad D cI hC hE H locs ls hP hS hl
  exact va_gets hC.1 hC.2.1 hC.2.2.2.2.2.2.2.2.2.1.2.2.1 hS hC.2.2.2.1 (hC.2.2.2.2.1 _ hlink) (fun _ h9 => h9) hd (kk p l e s m args below meth c cells slots Z ad D cI hC hE H locs ls hP hS hl)
theorem V.getf {idx : Nat} (hd : decode md.2.1 pc = .ok (.getstatic idx, 3)) (hlink : Cond.fieldLink md.1.cls idx "jdk/internal/util/Preconditions" "SIOOBE_FORMATTER" "Ljava/util/function/BiFunction;" ∈ TBL) (hp : pc + 3 = pc') (kk : ∀ w : Value, w.category = 1 → V md pc' L (w :: st) M Q) : V md pc L st M Q := by
  subst hp
  intro p l e s m args below meth c cells slots Z ad D cI hC hE H locs ls hP hS hl
  rcases hC.2.2.2.2.2.2.2.2.2.1.2.2.2.1 with h | h
  · exact va_gets hC.1 hC.2.1 h hS hC.2.2.2.1 (hC.2.2.2.2.1 _ hlink) (fun _ h9 => h9) hd (kk .null rfl p l e s m args below meth c cells slots Z ad D cI hC hE H locs ls hP hS hl)
  · exact va_gets hC.1 hC.2.1 h hS hC.2.2.2.1 (hC.2.2.2.2.1 _ hlink) (fun _ h9 => h9) hd (kk (.ref 98) rfl p l e s m args below meth c cells slots Z ad D cI hC hE H locs ls hP hS hl)
end VF
/-- what the tables say of a method that is called -/
def MO (md : MD) (n : Nat) : Prop := md.2.2.2.2.2 = none ∧ plainName md.1.cls = true ∧ md.2.2.2.2.1.cells = 0 ∧ md.2.2.2.2.1.slots = 0 ∧ Cond.code md.1 md.2.1 md.2.2.1 md.2.2.2.1 ∈ TBL ∧ Cond.initialized md.1.cls ∈ TBL ∧ (md.1.cls ≠ "java/lang/invoke/MethodHandle" ∧ md.1.cls ≠ "java/lang/invoke/VarHandle") ∧ (parseMethodDescriptor md.1.desc).map (fun d => d.parameters.length) = some n
def MOV (md : MD) (n : Nat) : Prop := MO md n ∧ Cond.instanceMethod md.1 ∈ TBL ∧ Cond.selects md.1.cls md.1 md.1 ∈ TBL
def MOS (md : MD) (n : Nat) : Prop := MO md n ∧ Cond.static md.1 ∈ TBL
/-- room for a call -/
def RM (md md' : MD) : Prop := md'.2.2.2.2.1.frames + 1 ≤ md.2.2.2.2.1.frames ∧ 8 + (md'.2.2.1 + 11) + md'.2.2.2.2.1.locals ≤ md.2.2.2.2.1.locals
def QM (ad : Nat → Nat) (D : va_G) (cI : ClassId) (Q : Option Value → Mem → Prop) : Array Value → State → Outcome → State → Prop := fun _ st oc t => (∃ (rv : Option Value) (M' : Mem), oc = .returned (rv.map (tr ad)) ∧ Q rv M' ∧ va_P D vwCl (wsOf ad cI M') t.heap) ∧ va_F (AA ad) st t
theorem SX.kept {ad : Nat → Nat} {U : State} {H H1 : Heap} (h : SX ad U H) (hq : ∀ a : Nat, a < H.size → ¬ AA ad a → H1[a]? = H[a]?) : SX ad U H1 :=
  ⟨h.1.kept hq, h.2.1, h.2.2.1.kept hq, h.2.2.2.1.elim (fun z => Or.inl (z.kept hq)) (fun z => Or.inr (z.kept hq)), h.2.2.2.2⟩
theorem SX.warm {ad : Nat → Nat} {s U : State} {H : Heap} (hW : s.WarmedH U.vm) (h : SX ad s H) : SX ad U H :=
  ⟨h.1.moved hW.alike, fun i hi => (h.2.1 i hi).warm hW, h.2.2.1.moved hW.alike, h.2.2.2.1.elim (fun z => Or.inl (z.moved hW.alike)) (fun z => Or.inr (z.moved hW.alike)), va_Nw.warmM hW h.2.2.2.2⟩
theorem SX.same {ad : Nat → Nat} {u U : State} {H : Heap} (hv : U.vm = u.vm) (h : SX ad u H) : SX ad U H :=
  ⟨h.1.moved (by rw [hv]; exact Vm.Alike.refl u.vm), fun i hi => (h.2.1 i hi).same hv, h.2.2.1.moved (by rw [hv]; exact Vm.Alike.refl u.vm), h.2.2.2.1.elim (fun z => Or.inl (z.moved (by rw [hv]; exact Vm.Alike.refl u.vm))) (fun z => Or.inr (z.moved (by rw [hv]; exact Vm.Alike.refl u.vm))), va_Nw.same rfl hv.symm h.2.2.2.2⟩
theorem met_V {md : MD} {n : Nat} (hO : MO md n) {As : List Value} {M : Mem} {Q : Option Value → Mem → Prop} (hlen : (lg_sl As).length ≤ md.2.2.1) (h : V md 0 (lv_args 0 As) [] M Q) (l : Launch) (ad : Nat → Nat) (D : va_G) (cI : ClassId) :
    Met l md.1 (Cond.code md.1 md.2.1 md.2.2.1 md.2.2.2.1 :: TBL) md.2.2.2.2.1 (va_Pc (As.map (tr ad)) (PU ad D cI M)) (QM ad D cI Q) 0 0 (AA ad) := by
  obtain ⟨hX, hpn, hc0, hs0, -⟩ := hO
  refine Met.ofW (cc := md.2.1) (maxL := md.2.2.1) (ret := md.2.2.2.1) hpn rfl ?_
  intro p e s m args below meth c s₁ B hml hv
  obtain ⟨rfl, hP, hK, hI, hSX⟩ := hv
  have hts := atoms_spec (ws := Cond.code md.1 md.2.1 md.2.2.1 md.2.2.2.1 :: TBL) B.pre
  have hown : s.vm.findClass md.1.cls = some m.cls := findClass_of_methodNamed B.named
  have hr := B.returns
  have hlocks := B.notSynchronized
  have hl := lv_entry (As.map (tr ad)) (n := md.2.2.1) (by rw [lg_sl_tr]; exact hlen)
  rw [lv_args_tr] at hl
  rw [lg_entry_eq]
  refine h p l e s m _ below meth c 0 0 _ ad D cI ⟨B.exec, B.bytes, hml, hown, fun w hw => hts w (List.mem_cons_of_mem _ hw), Nat.zero_le _, Nat.zero_le _, hK, hI, hSX, by rw [hX]; trivial⟩ ?_ s.heap [] _ hP va_S.rf hl
  intro rv M' H' locs' pc' ls' hret hq hP' hS'
  have done : ∀ t : State, t.heap = H' → (∃ (rv1 : Option Value) (M1 : Mem), Outcome.returned (rv.map (tr ad)) = .returned (rv1.map (tr ad)) ∧ Q rv1 M1 ∧ va_P D vwCl (wsOf ad cI M1) t.heap) ∧ va_F (AA ad) s t := fun t ht => ⟨⟨rv, M', rfl, hq, by rw [ht]; exact hP'⟩, hS'.F ht⟩
  match rv, hret, done with
  | none, hret, done => exact W.vret B.exec B.bytes (by rw [hr]; exact hret.2) (fun t ht hW => done t ht) hS'.2.2 hret.1
  | some (.int v), hret, done =>
    obtain ⟨h1, ty, h2, h3⟩ := hret
    exact W.zret B.exec B.bytes (by rw [hr]; exact h2) h3 (fun t ht hW => done t ht) hS'.2.2 h1
  | some (.long v), hret, done => exact W.lret B.exec B.bytes (by rw [hr]; exact hret.2) (fun t ht hW => done t ht) hS'.2.2 hret.1
theorem blind_PU {ad : Nat → Nat} {D : va_G} {cI : ClassId} {M : Mem} {As : List Value} : FrameBlind (va_Pc As (PU ad D cI M)) := fun a U g mk q => by
  obtain ⟨q0, qP, qK, qI, qS⟩ := q
  exact ⟨q0, qP, va_K.moved (u := U) (U := U.calling g mk a) (Vm.Alike.refl U.vm) qK, qI, SX.same rfl qS⟩
section VC
variable {md md' : MD} {pc pc' n idx : Nat} {L : List (Nat × Value)} {As st rest : List Value} {M : Mem} {Q Q' : Option Value → Mem → Prop}
theorem callB_V {s : State} {args : Array Value} (hO : MO md' n) (hR : RM md md') (hts : ∀ w ∈ TBL, w.before args s = true) (hlink : Cond.methodLink md.1.cls idx md'.1 ∈ TBL) : CallB md.2.2.2.2.1 s args md.1.cls idx md'.1 md'.2.1 md'.2.2.1 md'.2.2.2.1 (Cond.code md'.1 md'.2.1 md'.2.2.1 md'.2.2.2.1 :: TBL) md'.2.2.2.2.1 0 0 n := by
  obtain ⟨-, -, hc0, hs0, hcode, hini, hnm, hdsc⟩ := hO
  have hG : GoodIn TBL (Cond.code md'.1 md'.2.1 md'.2.2.1 md'.2.2.2.1 :: TBL) := fun w hw => by
    rcases List.mem_cons.mp hw with rfl | h
    · exact ⟨hcode, tbl_good _ hcode⟩
    · exact ⟨h, tbl_good _ h⟩
  refine ⟨hc0, hs0, hR.1, hR.2, pay_in hts hG, List.mem_cons_self, hts _ hcode, hts _ hini, hnm, fun sig h => ?_, hts _ hlink⟩
  rw [h] at hdsc
  exact (Option.some.inj hdsc).symm
theorem V.after {p : Program} {l : Launch} {e : Env} {s : State} {m : MethodId} {args : Array Value} {below : List Frame} {meth : Method} {c : Code} {cells slots : Nat} {Z : State → Prop} {ad : Nat → Nat} {D : va_G} {cI : ClassId} {a : Array Value}
    (hC : CX md p s m args meth c cells slots ad D cI) (hE : EN md p l e s m args below meth c cells slots Z ad D cI Q) {H : Heap} {locs : List Loc} {ls : Array Slot} (hS : va_S (AA ad) s.heap H locs) (hl : lv_has ls md.2.2.1 (trL ad L)) {st0 : List Value}
    (hr : va_Run p l e md.2.2.2.2.1 s m args below meth c H locs cells slots 0 0 (F0 m pc ls st0) (rest.map (tr ad)) (QM ad D cI Q' a) (AA ad))
    (kk : ∀ rv M', Q' rv M' → V md (pc + 3) L (rv.toList ++ rest) M' Q) : W p l e md.2.2.2.2.1 s m args below meth c H locs cells slots Z (F0 m pc ls st0) := by
  intro T hT X
  obtain ⟨v, st₀, t, T', Lc, h0, X', hLc, e1, e2, ⟨⟨rv, M', hv, hq, hP'⟩, hz, hk⟩, go⟩ := hr T hT X
  rw [h0] at hz hk
  have hv' : v = rv.map (tr ad) := Outcome.returned.inj hv
  subst hv'
  have hS' : va_S (AA ad) s.heap T'.heap (locs ++ Lc) := ⟨Nat.le_trans hS.1 (by rw [e1]; exact hz), fun q h1 h2 => by rw [e1, hk q (Nat.lt_of_lt_of_le h1 hS.1) h2]; exact hS.2.1 q h1 h2, fun q hq => by
      rcases List.mem_append.mp hq with h | h
      · exact hS.2.2 q h
      · exact hLc q h⟩
  obtain ⟨t2, a1, b1⟩ := kk rv M' hq p l e s m args below meth c cells slots Z ad D cI hC hE T'.heap (locs ++ Lc) ls (by rw [e1]; exact hP') hS' hl T' rfl X'
  refine ⟨t2, go t2 ?_, b1⟩
  have e3 : (rv.toList ++ rest).map (tr ad) = (rv.map (tr ad)).toList ++ rest.map (tr ad) := by cases rv <;> simp
  rw [e3] at a1
  exact a1
theorem pu_of {p : Program} {s : State} {m : MethodId} {args : Array Value} {meth : Method} {c : Code} {cells slots : Nat} {ad : Nat → Nat} {D : va_G} {cI : ClassId} (hC : CX md p s m args meth c cells slots ad D cI) {H : Heap} {locs : List Loc} (hP : va_P D vwCl (wsOf ad cI M) H) (hS : va_S (AA ad) s.heap H locs) : ∀ U : State, U.heap = H → s.WarmedH U.vm → PU ad D cI M U := by
  intro U hU hW
  refine ⟨by rw [hU]; exact hP, va_K.moved hW.alike hC.2.2.2.2.2.2.2.1, hC.2.2.2.2.2.2.2.2.1, ?_⟩
  rw [hU]
  exact SX.warm hW (hC.2.2.2.2.2.2.2.2.2.1.kept hS.2.1)
theorem V.callv {k ci : Nat} {fl : List (Option Nat)} (hd : decode md.2.1 pc = .ok (.invokevirtual idx, 3)) (hlink : Cond.methodLink md.1.cls idx md'.1 ∈ TBL) (hO : MOV md' n) (hR : RM md md') (hs : sh k = .inr (ci, fl)) (hc : ∃ T N, vwCl[ci]? = some (md'.1.cls, T, N)) (hlen : (lg_sl (.ref k :: As)).length ≤ md'.2.2.1) (hn : As.length = n) (hst : st = As.reverse ++ .ref k :: rest) (hw : (rest.map fun v => v.category).sum ≤ 8)
    (h : V md' 0 (lv_args 0 (.ref k :: As)) [] M Q') (kk : ∀ rv M', Q' rv M' → V md (pc + 3) L (rv.toList ++ rest) M' Q) : V md pc L st M Q := by
  subst hst
  intro p l e s m args below meth c cells slots Z ad D cI hC hE H locs ls hP hS hl
  obtain ⟨hO, hin, hse⟩ := hO
  obtain ⟨T, N, hcl⟩ := hc
  refine V.after hC hE hS hl (a := (Value.ref (ad k) :: As.map (tr ad)).toArray) ?_ kk
  exact va_runV (own := md.1.cls) (C := md'.1.cls) (Ts := TBL) (nL := md.2.2.1) (cc := md.2.1) (b := ad k) (As := As.map (tr ad)) ⟨hC.1, hC.2.1, hC.2.2.1, hC.2.2.2.1, hC.2.2.2.2.1⟩ (met_V hO hlen h l ad D cI) ⟨callB_V hO hR hC.2.2.2.2.1 hlink, hC.2.2.2.2.1 _ hin, hC.2.2.2.2.1 _ hse⟩
    ⟨blind_PU, va_recv hC.2.2.2.2.2.2.2.1 hP (q0 := k) hcl (ws_obj ad cI M hs), fun U hU hW => ⟨rfl, pu_of hC hP hS U hU hW⟩⟩ rfl (by rw [List.length_map]; exact hn) hl.1 (by simp [tr]) (lv_room (by rw [tr_sum]; exact hw)) hd ⟨hC.2.2.2.2.2.1, hC.2.2.2.2.2.2.1⟩
theorem V.callS {i : Nat} (hi : i < 17) (hd : decode md.2.1 pc = .ok (.invokevirtual idx, 3)) (hlink : Cond.methodLink md.1.cls idx md'.1 ∈ TBL) (hO : MOV md' n) (hR : RM md md') (hc : md'.1.cls = "java/lang/String") (hlen : (lg_sl (.ref (100 + i) :: As)).length ≤ md'.2.2.1) (hn : As.length = n) (hst : st = As.reverse ++ .ref (100 + i) :: rest) (hw : (rest.map fun v => v.category).sum ≤ 8)
    (h : V md' 0 (lv_args 0 (.ref (100 + i) :: As)) [] M Q') (kk : ∀ rv M', Q' rv M' → V md (pc + 3) L (rv.toList ++ rest) M' Q) : V md pc L st M Q := by
  subst hst
  intro p l e s m args below meth c cells slots Z ad D cI hC hE H locs ls hP hS hl
  obtain ⟨hO, hin, hse⟩ := hO
  refine V.after hC hE hS hl (a := (Value.ref (ad (100 + i)) :: As.map (tr ad)).toArray) ?_ kk
  exact va_runV (own := md.1.cls) (C := md'.1.cls) (Ts := TBL) (nL := md.2.2.1) (cc := md.2.1) (b := ad (100 + i)) (As := As.map (tr ad)) ⟨hC.1, hC.2.1, hC.2.2.1, hC.2.2.2.1, hC.2.2.2.2.1⟩ (met_V hO hlen h l ad D cI) ⟨callB_V hO hR hC.2.2.2.2.1 hlink, hC.2.2.2.2.1 _ hin, hC.2.2.2.2.1 _ hse⟩
    ⟨blind_PU, by rw [hc]; exact vk_recv (i := i) hC.2.2.2.2.2.2.2.2.2.1.1 hi hS, fun U hU hW => ⟨rfl, pu_of hC hP hS U hU hW⟩⟩ rfl (by rw [List.length_map]; exact hn) hl.1 (by simp [tr]) (lv_room (by rw [tr_sum]; exact hw)) hd ⟨hC.2.2.2.2.2.1, hC.2.2.2.2.2.2.1⟩
theorem V.calls (hd : decode md.2.1 pc = .ok (.invokestatic idx, 3)) (hlink : Cond.methodLink md.1.cls idx md'.1 ∈ TBL) (hO : MOS md' n) (hR : RM md md') (hlen : (lg_sl As).length ≤ md'.2.2.1) (hn : As.length = n) (hst : st = As.reverse ++ rest) (hw : (rest.map fun v => v.category).sum ≤ 8)
    (h : V md' 0 (lv_args 0 As) [] M Q') (kk : ∀ rv M', Q' rv M' → V md (pc + 3) L (rv.toList ++ rest) M' Q) : V md pc L st M Q := by
  subst hst
  intro p l e s m args below meth c cells slots Z ad D cI hC hE H locs ls hP hS hl
  obtain ⟨hO, hsta⟩ := hO
  refine V.after hC hE hS hl (a := (As.map (tr ad)).toArray) ?_ kk
  exact va_runS (own := md.1.cls) (Ts := TBL) (nL := md.2.2.1) (cc := md.2.1) (As := As.map (tr ad)) ⟨hC.1, hC.2.1, hC.2.2.1, hC.2.2.2.1, hC.2.2.2.2.1⟩ (met_V hO hlen h l ad D cI) ⟨callB_V hO hR hC.2.2.2.2.1 hlink, hC.2.2.2.2.1 _ hsta⟩
    ⟨blind_PU, fun U hU hW => ⟨rfl, pu_of hC hP hS U hU hW⟩⟩ rfl (by rw [List.length_map]; exact hn) hl.1 (by simp) (lv_room (by rw [tr_sum]; exact hw)) hd ⟨hC.2.2.2.2.2.1, hC.2.2.2.2.2.2.1⟩
end VC
