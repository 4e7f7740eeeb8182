/-! rules for calls whose answer and memory are said outright; reads and writes at a Nat place -/
def RT (v : Option Value) (M1 : Mem) : Option Value → Mem → Prop := fun rv M' => rv = v ∧ M' = M1
def isE (e : Nat) : Prop := e = 1 ∨ e = 14 ∨ e = 27 ∨ e = 40
theorem sh_ev {e : Nat} (h : isE e) : sh e = .inr (2, [some (e+1), some (e+7), some (e+11), some (e+12), none, none, none, none, none, none, none, none, none, none, none]) := by rcases h with rfl | rfl | rfl | rfl <;> rfl
theorem sh_nu {e : Nat} (h : isE e) : sh (e+1) = .inr (3, [some (e+2), some (e+3), some (e+4), some (e+5), some (e+6), none]) := by rcases h with rfl | rfl | rfl | rfl <;> rfl
theorem sh_a2 {e : Nat} (h : isE e) : sh (e+2) = .inl 10 := by rcases h with rfl | rfl | rfl | rfl <;> rfl
theorem sh_a3 {e : Nat} (h : isE e) : sh (e+3) = .inl 10 := by rcases h with rfl | rfl | rfl | rfl <;> rfl
theorem sh_a4 {e : Nat} (h : isE e) : sh (e+4) = .inl 10 := by rcases h with rfl | rfl | rfl | rfl <;> rfl
theorem sh_a5 {e : Nat} (h : isE e) : sh (e+5) = .inl 10 := by rcases h with rfl | rfl | rfl | rfl <;> rfl
theorem sh_a6 {e : Nat} (h : isE e) : sh (e+6) = .inl 10 := by rcases h with rfl | rfl | rfl | rfl <;> rfl
theorem sh_cr {e : Nat} (h : isE e) : sh (e+7) = .inr (1, [some (e+8), some (e+9), some (e+10), none]) := by rcases h with rfl | rfl | rfl | rfl <;> rfl
theorem sh_a8 {e : Nat} (h : isE e) : sh (e+8) = .inl 12 := by rcases h with rfl | rfl | rfl | rfl <;> rfl
theorem sh_a9 {e : Nat} (h : isE e) : sh (e+9) = .inl 12 := by rcases h with rfl | rfl | rfl | rfl <;> rfl
theorem sh_a10 {e : Nat} (h : isE e) : sh (e+10) = .inl 12 := by rcases h with rfl | rfl | rfl | rfl <;> rfl
theorem sh_a11 {e : Nat} (h : isE e) : sh (e+11) = .inl 7 := by rcases h with rfl | rfl | rfl | rfl <;> rfl
theorem sh_a12 {e : Nat} (h : isE e) : sh (e+12) = .inl 10 := by rcases h with rfl | rfl | rfl | rfl <;> rfl
section VN
variable {md md' : MD} {pc pc' n idx : Nat} {L : List (Nat × Value)} {As st rest : List Value} {M M' M1 : Mem} {Q : Option Value → Mem → Prop}
theorem V.ialdN {k n j : Nat} {i v : Int32} (hd : decode md.2.1 pc = .ok (.iaload, 1)) (hs : sh k = .inl n) (hj : j < n) (hn : n < 2 ^ 31) (hi : i = nI j) (hv : M k j = v) (hp : pc + 1 = pc') (kk : V md pc' L (.int v :: st) M Q) : V md pc L (.int i :: .ref k :: st) M Q := by
  subst hi
  exact V.iald hd hs (Nat.lt_of_le_of_lt (Nat.zero_le _) hj) (vp_in_nI hj hn) (by rw [nI_clamp (Nat.lt_trans hj hn)]; exact hv) hp kk
theorem V.iastN {k n j : Nat} {i x : Int32} (hd : decode md.2.1 pc = .ok (.iastore, 1)) (hs : sh k = .inl n) (hj : j < n) (hn : n < 2 ^ 31) (hi : i = nI j) (hM : ms M k j x = M') (hp : pc + 1 = pc') (kk : V md pc' L st M' Q) : V md pc L (.int x :: .int i :: .ref k :: st) M Q := by
  subst hi
  exact V.iast hd hs (Nat.lt_of_le_of_lt (Nat.zero_le _) hj) (vp_in_nI hj hn) (by rw [nI_clamp (Nat.lt_trans hj hn)]; exact hM) hp kk
theorem V.callv_i {k ci : Nat} {fl : List (Option Nat)} {v : Int32} (hd : decode md.2.1 pc = .ok (.invokevirtual idx, 3)) (hlink : Cond.methodLink md.1.cls idx md'.1 ∈ TBL) (hO : MOV md' n) (hR : RM md md') (hs : sh k = .inr (ci, fl)) (hc : ∃ T N, vwCl[ci]? = some (md'.1.cls, T, N)) (hlen : (lg_sl (.ref k :: As)).length ≤ md'.2.2.1) (hn : As.length = n) (hst : st = As.reverse ++ .ref k :: rest) (hw : (rest.map fun v => v.category).sum ≤ 8)
    (h : V md' 0 (lv_args 0 (.ref k :: As)) [] M (RT (some (.int v)) M1)) (hp : pc + 3 = pc') (kk : V md pc' L (.int v :: rest) M1 Q) : V md pc L st M Q := by
  subst hp
  exact V.callv hd hlink hO hR hs hc hlen hn hst hw h (fun rv M' q => by obtain ⟨rfl, rfl⟩ := q; exact kk)
theorem V.callv_l {k ci : Nat} {fl : List (Option Nat)} {v : Int64} (hd : decode md.2.1 pc = .ok (.invokevirtual idx, 3)) (hlink : Cond.methodLink md.1.cls idx md'.1 ∈ TBL) (hO : MOV md' n) (hR : RM md md') (hs : sh k = .inr (ci, fl)) (hc : ∃ T N, vwCl[ci]? = some (md'.1.cls, T, N)) (hlen : (lg_sl (.ref k :: As)).length ≤ md'.2.2.1) (hn : As.length = n) (hst : st = As.reverse ++ .ref k :: rest) (hw : (rest.map fun v => v.category).sum ≤ 8)
    (h : V md' 0 (lv_args 0 (.ref k :: As)) [] M (RT (some (.long v)) M1)) (hp : pc + 3 = pc') (kk : V md pc' L (.long v :: rest) M1 Q) : V md pc L st M Q := by
  subst hp
  exact V.callv hd hlink hO hR hs hc hlen hn hst hw h (fun rv M' q => by obtain ⟨rfl, rfl⟩ := q; exact kk)
theorem V.callv_v {k ci : Nat} {fl : List (Option Nat)} (hd : decode md.2.1 pc = .ok (.invokevirtual idx, 3)) (hlink : Cond.methodLink md.1.cls idx md'.1 ∈ TBL) (hO : MOV md' n) (hR : RM md md') (hs : sh k = .inr (ci, fl)) (hc : ∃ T N, vwCl[ci]? = some (md'.1.cls, T, N)) (hlen : (lg_sl (.ref k :: As)).length ≤ md'.2.2.1) (hn : As.length = n) (hst : st = As.reverse ++ .ref k :: rest) (hw : (rest.map fun v => v.category).sum ≤ 8)
    (h : V md' 0 (lv_args 0 (.ref k :: As)) [] M (RT none M1)) (hp : pc + 3 = pc') (kk : V md pc' L rest M1 Q) : V md pc L st M Q := by
  subst hp
  exact V.callv hd hlink hO hR hs hc hlen hn hst hw h (fun rv M' q => by obtain ⟨rfl, rfl⟩ := q; exact kk)
theorem V.calls_i {v : Int32} (hd : decode md.2.1 pc = .ok (.invokestatic idx, 3)) (hlink : Cond.methodLink md.1.cls idx md'.1 ∈ TBL) (hO : MOS md' n) (hR : RM md md') (hlen : (lg_sl As).length ≤ md'.2.2.1) (hn : As.length = n) (hst : st = As.reverse ++ rest) (hw : (rest.map fun v => v.category).sum ≤ 8)
    (h : V md' 0 (lv_args 0 As) [] M (RT (some (.int v)) M1)) (hp : pc + 3 = pc') (kk : V md pc' L (.int v :: rest) M1 Q) : V md pc L st M Q := by
  subst hp
  exact V.calls hd hlink hO hR hlen hn hst hw h (fun rv M' q => by obtain ⟨rfl, rfl⟩ := q; exact kk)
theorem V.calls_v (hd : decode md.2.1 pc = .ok (.invokestatic idx, 3)) (hlink : Cond.methodLink md.1.cls idx md'.1 ∈ TBL) (hO : MOS md' n) (hR : RM md md') (hlen : (lg_sl As).length ≤ md'.2.2.1) (hn : As.length = n) (hst : st = As.reverse ++ rest) (hw : (rest.map fun v => v.category).sum ≤ 8)
    (h : V md' 0 (lv_args 0 As) [] M (RT none M1)) (hp : pc + 3 = pc') (kk : V md pc' L rest M1 Q) : V md pc L st M Q := by
  subst hp
  exact V.calls hd hlink hO hR hlen hn hst hw h (fun rv M' q => by obtain ⟨rfl, rfl⟩ := q; exact kk)
theorem V.callS_i {i : Nat} {v : Int32} (hi : i < 17) (hd : decode md.2.1 pc = .ok (.invokevirtual idx, 3)) (hlink : Cond.methodLink md.1.cls idx md'.1 ∈ TBL) (hO : MOV md' n) (hR : RM md md') (hc : md'.1.cls = "java/lang/String") (hlen : (lg_sl (.ref (100 + i) :: As)).length ≤ md'.2.2.1) (hn : As.length = n) (hst : st = As.reverse ++ .ref (100 + i) :: rest) (hw : (rest.map fun v => v.category).sum ≤ 8)
    (h : V md' 0 (lv_args 0 (.ref (100 + i) :: As)) [] M (RT (some (.int v)) M1)) (hp : pc + 3 = pc') (kk : V md pc' L (.int v :: rest) M1 Q) : V md pc L st M Q := by
  subst hp
  exact V.callS hi hd hlink hO hR hc hlen hn hst hw h (fun rv M' q => by obtain ⟨rfl, rfl⟩ := q; exact kk)
end VN
/-- what is read of a memory written to -/
theorem ms_s {M : Mem} {k j : Nat} {v : Int32} : ms M k j v k j = v := by simp [ms]
theorem ms_k {M : Mem} {k j a : Nat} {v : Int32} (h : a ≠ k) : ms M k j v a = M a := by funext b; simp [ms, h]
theorem ms_j {M : Mem} {k j a b : Nat} {v : Int32} (h : b ≠ j) : ms M k j v a b = M a b := by simp [ms, h]
theorem mr_s {M : Mem} {k : Nat} {f : Nat → Int32} : mr M k f k = f := by funext b; simp [mr]
theorem mr_k {M : Mem} {k a : Nat} {f : Nat → Int32} (h : a ≠ k) : mr M k f a = M a := by funext b; simp [mr, h]
/-- a stored local, at its own place in the list -/
def lsU (L : List (Nat × Value)) (i : Nat) (v : Value) : List (Nat × Value) := match L.any (fun q => q.1 == i) with
  | true => (L.filter fun q => !(q.1 + 1 == i && q.2.category == 2)).map (fun q => bif q.1 == i then (i, v) else q)
  | false => (L.filter fun q => !(q.1 + 1 == i && q.2.category == 2)) ++ [(i, v)]
theorem lsU_sub (L : List (Nat × Value)) (i : Nat) (v : Value) : ∀ q ∈ lsU L i v, q ∈ (i, v) :: lsF L i := by
  intro q hq
  unfold lsU at hq
  split at hq
  · obtain ⟨z, hz, rfl⟩ := List.mem_map.mp hq
    obtain ⟨h1, h2⟩ := List.mem_filter.mp hz
    cases e : (z.1 == i) with
    | true => exact List.mem_cons_self
    | false =>
      show z ∈ _
      exact List.mem_cons_of_mem _ (List.mem_filter.mpr ⟨h1, by simp only [e, Bool.not_false, Bool.true_and]; exact h2⟩)
  · rename_i hn
    rcases List.mem_append.mp hq with h | h
    · obtain ⟨h1, h2⟩ := List.mem_filter.mp h
      have e : (q.1 == i) = false := by
        cases e : (q.1 == i) with
        | true => exact absurd (List.any_eq_true.mpr ⟨q, h1, e⟩) (by rw [hn]; simp)
        | false => rfl
      exact List.mem_cons_of_mem _ (List.mem_filter.mpr ⟨h1, by simp only [e, Bool.not_false, Bool.true_and]; exact h2⟩)
    · rw [List.mem_singleton.mp h]
      exact List.mem_cons_self
def lsU2 (L : List (Nat × Value)) (i : Nat) (v : Value) : List (Nat × Value) := match L.any (fun q => q.1 == i) with
  | true => (L.filter fun q => !(q.1 == i + 1) && !(q.1 + 1 == i && q.2.category == 2)).map (fun q => bif q.1 == i then (i, v) else q)
  | false => (L.filter fun q => !(q.1 == i + 1) && !(q.1 + 1 == i && q.2.category == 2)) ++ [(i, v)]
theorem lsU2_sub (L : List (Nat × Value)) (i : Nat) (v : Value) : ∀ q ∈ lsU2 L i v, q ∈ (i, v) :: lsF2 L i := by
  intro q hq
  unfold lsU2 at hq
  split at hq
  · obtain ⟨z, hz, rfl⟩ := List.mem_map.mp hq
    obtain ⟨h1, h2⟩ := List.mem_filter.mp hz
    cases e : (z.1 == i) with
    | true => exact List.mem_cons_self
    | false =>
      show z ∈ _
      exact List.mem_cons_of_mem _ (List.mem_filter.mpr ⟨h1, by simp only [e, Bool.not_false, Bool.true_and]; exact h2⟩)
  · rename_i hn
    rcases List.mem_append.mp hq with h | h
    · obtain ⟨h1, h2⟩ := List.mem_filter.mp h
      have e : (q.1 == i) = false := by
        cases e : (q.1 == i) with
        | true => exact absurd (List.any_eq_true.mpr ⟨q, h1, e⟩) (by rw [hn]; simp)
        | false => rfl
      exact List.mem_cons_of_mem _ (List.mem_filter.mpr ⟨h1, by simp only [e, Bool.not_false, Bool.true_and]; exact h2⟩)
    · rw [List.mem_singleton.mp h]
      exact List.mem_cons_self
theorem nb_if (P : Prop) [Decidable P] : narrow .boolean (.int (if P then 1 else 0)) = .int (if P then 1 else 0) := by split <;> rfl
section VX
variable {md : MD} {pc pc' : Nat} {L L' : List (Nat × Value)} {st st' : List Value} {M M' : Mem} {Q : Option Value → Mem → Prop}
theorem V.ist_n {k : Fin 4} {i : Nat} {x : Int32} (hd : decode md.2.1 pc = .ok (.istore_n k, 1)) (hi : (k : Nat) = i) (hn : i < md.2.2.1) (hL : lsU L i (.int x) = L') (hp : pc + 1 = pc') (kk : V md pc' L' st M Q) : V md pc L (.int x :: st) M Q := by
  subst hL
  exact V.istore_n hd hi hn rfl hp (V.loc (lsU_sub L i _) kk)
theorem V.ist {i : Nat} {x : Int32} (hd : decode md.2.1 pc = .ok (.istore i, 2)) (hn : i < md.2.2.1) (hL : lsU L i (.int x) = L') (hp : pc + 2 = pc') (kk : V md pc' L' st M Q) : V md pc L (.int x :: st) M Q := by
  subst hL
  exact V.istore hd hn rfl hp (V.loc (lsU_sub L i _) kk)
theorem V.ast_n {k : Fin 4} {i x : Nat} (hd : decode md.2.1 pc = .ok (.astore_n k, 1)) (hi : (k : Nat) = i) (hn : i < md.2.2.1) (hL : lsU L i (.ref x) = L') (hp : pc + 1 = pc') (kk : V md pc' L' st M Q) : V md pc L (.ref x :: st) M Q := by
  subst hL
  exact V.astore_n hd hi hn rfl hp (V.loc (lsU_sub L i _) kk)
theorem V.lst_n {k : Fin 4} {i : Nat} {x : Int64} (hd : decode md.2.1 pc = .ok (.lstore_n k, 1)) (hi : (k : Nat) = i) (hn : i + 1 < md.2.2.1) (hL : lsU2 L i (.long x) = L') (hp : pc + 1 = pc') (kk : V md pc' L' st M Q) : V md pc L (.long x :: st) M Q := by
  subst hL
  exact V.lstore_n hd hi hn rfl hp (V.loc (lsU2_sub L i _) kk)
theorem V.inc {i : Nat} {n : Int} {x v : Int32} (hd : decode md.2.1 pc = .ok (.iinc i n, 3)) (hl : L.lookup i = some (.int x)) (hv : x + Int32.ofInt n = v) (hn : i < md.2.2.1) (hL : lsU L i (.int v) = L') (hp : pc + 3 = pc') (kk : V md pc' L' st M Q) : V md pc L st M Q := by
  subst hL
  exact V.iinc hd hl hv hn rfl hp (V.loc (lsU_sub L i _) kk)
/-- the top of the stack by another name -/
theorem V.top {x y : Int32} (h : x = y) (k : V md pc L (.int y :: st) M Q) : V md pc L (.int x :: st) M Q := by subst h; exact k
theorem V.conv (hL : L = L') (hs : st = st') (hM : M = M') (k : V md pc L' st' M' Q) : V md pc L st M Q := by subst hL; subst hs; subst hM; exact k
theorem V.mem (hM : M = M') (k : V md pc L st M' Q) : V md pc L st M Q := by subst hM; exact k
theorem V.ifb_eq {P : Prop} [Decidable P] {off : Int} {tgt : Nat} (hd : decode md.2.1 pc = .ok (.ifCond .eq off, 3)) (ht : (pc : Int) + off = (tgt : Int)) (hp : pc + 3 = pc') (kt : ¬ P → V md tgt L st M Q) (kf : P → V md pc' L st M Q) : V md pc L (.int (if P then 1 else 0) :: st) M Q :=
  V.if_eq hd ht hp (fun h => kt (fun q => by rw [if_pos q] at h; exact absurd h (by decide))) (fun h => kf (Classical.byContradiction fun q => h (by rw [if_neg q])))
theorem V.ifb_ne {P : Prop} [Decidable P] {off : Int} {tgt : Nat} (hd : decode md.2.1 pc = .ok (.ifCond .ne off, 3)) (ht : (pc : Int) + off = (tgt : Int)) (hp : pc + 3 = pc') (kt : P → V md tgt L st M Q) (kf : ¬ P → V md pc' L st M Q) : V md pc L (.int (if P then 1 else 0) :: st) M Q :=
  V.if_ne hd ht hp (fun h => kt (Classical.byContradiction fun q => h (by rw [if_neg q]))) (fun h => kf (fun q => by rw [if_pos q] at h; exact absurd h (by decide)))
theorem V.i2c {x v : Int32} (hd : decode md.2.1 pc = .ok (.i2c, 1)) (hv : (x.toUInt32 % 65536).toInt32 = v) (hp : pc + 1 = pc') (k : V md pc' L (.int v :: st) M Q) : V md pc L (.int x :: st) M Q := by
  subst hp
  intro p l e s m args below meth c cells slots Z ad D cI hC hE H locs ls hP hS hl
  exact lv_i2c hC.1 hC.2.1 hd hv (k p l e s m args below meth c cells slots Z ad D cI hC hE H locs ls hP hS hl)
end VX
