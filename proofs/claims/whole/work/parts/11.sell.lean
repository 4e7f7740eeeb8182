/-! Evening: sell, serve, pass -/
theorem yo_lt {kd bg ro ag pl : Nat → Int32} {fr to_ : Int32} : ∀ (n i : Nat) (o : Option Nat), (∀ j, o = some j → j < i) → ∀ j, yoG kd bg ro ag pl fr to_ n i o = some j → j < i + n := by
  intro n
  induction n with
  | zero => intro i o ho j h; exact ho j h
  | succ n ih =>
    intro i o ho j h
    have := ih (i + 1) _ (by
      intro j' h'
      cases o with
      | none => dsimp only at h'; split at h' <;> cases h'; omega
      | some k =>
        have := ho k rfl
        dsimp only at h'
        split at h' <;> cases h' <;> omega) j h
    omega
def mnF (r b : Int32) : Int32 := if b < r then b else r
def selM (e p : Nat) (pt : Int32) (b : Nat) (r : Int32) (M : Mem) : Mem := ms (ms (ms M (e+3) b (M (e+3) b - mnF r (M (e+3) b))) e 8 (M e 8 + mnF r (M (e+3) b) * (if pt = 2 then worthF (M (e+2) b) (nI p) / 2 else worthF (M (e+2) b) (nI p)))) e 11 (M e 11 + mnF r (M (e+3) b))
def selG (e p c : Nat) (fr to_ pt : Int32) : Nat → Int32 → Mem → Int32 × Mem
  | 0, r, M => (r, M)
  | n + 1, r, M => if 0 < r then (match yoG (M (e+2)) (M (e+3)) (M (e+4)) (M (e+5)) (M (e+6)) fr to_ c 0 none with
      | none => (r, M)
      | some b => selG e p c fr to_ pt n (r - mnF r (M (e+3) b)) (selM e p pt b r M)) else (r, M)
theorem selM_k {e p b a : Nat} {pt r : Int32} {M : Mem} (h1 : a ≠ e) (h2 : a ≠ e + 3) : selM e p pt b r M a = M a := by simp (disch := omega) only [selM, ms_k]
theorem selM_f {e p b j : Nat} {pt r : Int32} {M : Mem} (h1 : j ≠ 8) (h2 : j ≠ 11) : selM e p pt b r M e j = M e j := by simp [selM, ms, h1, h2]
theorem selG_k {e p c a : Nat} {fr to_ pt : Int32} (h1 : a ≠ e) (h2 : a ≠ e + 3) : ∀ (n : Nat) (r : Int32) (M : Mem), (selG e p c fr to_ pt n r M).2 a = M a := by
  intro n
  induction n with
  | zero => intro r M; rfl
  | succ n ih =>
    intro r M
    simp only [selG]
    split
    · split
      · rfl
      · rw [ih, selM_k h1 h2]
    · rfl
theorem selG_f {e p c j : Nat} {fr to_ pt : Int32} (h1 : j ≠ 8) (h2 : j ≠ 11) : ∀ (n : Nat) (r : Int32) (M : Mem), (selG e p c fr to_ pt n r M).2 e j = M e j := by
  intro n
  induction n with
  | zero => intro r M; rfl
  | succ n ih =>
    intro r M
    simp only [selG]
    split
    · split
      · rfl
      · rw [ih, selM_f h1 h2]
    · rfl
theorem l_X2_sell {e : Nat} (he : isE e) {c : Nat} (hc : c ≤ 10) {p : Nat} (hp : p ≤ 100) (r0 fr to_ pt : Int32) : ∀ (n i : Nat) (r : Int32) (M : Mem), M (e+1) 5 = nI c → M e 5 = nI p → i + n = 10 → V m_X2_sell 6 [(0, .ref e), (1, .int r0), (2, .int fr), (3, .int to_), (4, .int pt), (5, .int r), (6, .int (nI i))] [] M (RT (some (.int (selG e p c fr to_ pt n r M).1)) (selG e p c fr to_ pt n r M).2) := by
  intro n
  induction n with
  | zero =>
    intro i r M hM hP hi
    refine V.iload dX2_sell_6 rfl rfl ?_
    refine V.bipush (v := 10) dX2_sell_8 (by decide) rfl ?_
    refine V.icmp_ge (tgt := 139) dX2_sell_10 rfl rfl (fun c10 => ?_) (fun c10 => absurd ((nI_leI (a := 10) (b := i) (by omega) (by omega)).mpr (by omega)) c10)
    have c10 : 10 ≤ i := (nI_leI (a := 10) (b := i) (by omega) (by omega)).mp c10
    refine V.iload dX2_sell_139 rfl rfl ?_
    exact V.ret dX2_sell_141 rfl rfl ⟨rfl, rfl⟩
  | succ n ih =>
    intro i r M hM hP hi
    refine V.iload dX2_sell_6 rfl rfl ?_
    refine V.bipush (v := 10) dX2_sell_8 (by decide) rfl ?_
    refine V.icmp_ge (tgt := 139) dX2_sell_10 rfl rfl (fun c10 => absurd ((nI_leI (a := 10) (b := i) (by omega) (by omega)).mp c10) (by omega)) (fun c10 => ?_)
    have c10 : ¬ 10 ≤ i := fun q => c10 ((nI_leI (a := 10) (b := i) (by omega) (by omega)).mpr q)
    refine V.iload dX2_sell_13 rfl rfl ?_
    refine V.if_le (tgt := 139) dX2_sell_15 rfl rfl (fun c15 => ?_) (fun c15 => ?_)
    · have c15n : ¬ 0 < r := Int32.not_lt.mpr c15
      refine V.iload dX2_sell_139 rfl rfl ?_
      exact V.ret dX2_sell_141 rfl rfl ⟨(by simp only [selG]; rw [if_neg c15n]), (by simp only [selG]; rw [if_neg c15n])⟩
    · have d15 : 0 < r := Int32.not_le.mp c15
      refine V.aload_n dX2_sell_18 rfl rfl rfl ?_
      refine V.getr dX2_sell_19 fg_X2_12 (sh_ev he) rfl rfl ?_
      refine V.iload_n dX2_sell_22 rfl rfl rfl ?_
      refine V.iload_n dX2_sell_23 rfl rfl rfl ?_
      refine V.callv_i (M1 := M) (v := bI (yoG (M (e+2)) (M (e+3)) (M (e+4)) (M (e+5)) (M (e+6)) fr to_ c 0 none)) (md' := m_X4_youngest) (As := [.int fr, .int to_]) (rest := []) dX2_sell_24 ml_X2_122 mo_X4_youngest ⟨Nat.le_of_ble_eq_true rfl, Nat.le_of_ble_eq_true rfl⟩ (sh_nu he) ⟨_, _, rfl⟩ (Nat.le_of_ble_eq_true rfl) rfl rfl (Nat.le_of_ble_eq_true rfl) (v_X4_youngest he hc fr to_ M hM) rfl ?_
      rcases ho : yoG (M (e+2)) (M (e+3)) (M (e+4)) (M (e+5)) (M (e+6)) fr to_ c 0 none with _ | b
      · skip
        refine V.ist dX2_sell_27 (by decide) (L' := [(0, .ref e), (1, .int r0), (2, .int fr), (3, .int to_), (4, .int pt), (5, .int r), (6, .int (nI i)), (7, .int (-1))]) rfl rfl ?_
        refine V.iload dX2_sell_29 rfl rfl ?_
        refine V.if_ge (tgt := 37) dX2_sell_31 rfl rfl (fun c31 => absurd c31 (by decide)) (fun _ => ?_)
        refine V.iload dX2_sell_34 rfl rfl ?_
        exact V.ret dX2_sell_36 rfl rfl ⟨(by simp only [selG]; rw [if_pos d15, ho]), (by simp only [selG]; rw [if_pos d15, ho])⟩
      · have hb : b < 0 + c := yo_lt c 0 none (fun j q => by cases q) b ho
        refine V.ist dX2_sell_27 (by decide) (L' := [(0, .ref e), (1, .int r0), (2, .int fr), (3, .int to_), (4, .int pt), (5, .int r), (6, .int (nI i)), (7, .int (nI b))]) rfl rfl ?_
        refine V.iload dX2_sell_29 rfl rfl ?_
        refine V.if_ge (tgt := 37) dX2_sell_31 rfl rfl (fun c31 => ?_) (fun c31 => absurd ((nI_leI (a := 0) (b := b) (by omega) (by omega)).mpr (by omega)) c31)
        have c31 : 0 ≤ b := (nI_leI (a := 0) (b := b) (by omega) (by omega)).mp c31
        refine V.iload dX2_sell_37 rfl rfl ?_
        refine V.aload_n dX2_sell_39 rfl rfl rfl ?_
        refine V.getr dX2_sell_40 fg_X2_12 (sh_ev he) rfl rfl ?_
        refine V.getr dX2_sell_43 fg_X2_125 (sh_nu he) rfl rfl ?_
        refine V.iload dX2_sell_46 rfl rfl ?_
        refine V.ialdN (j := b) (v := M (e+3) b) dX2_sell_48 (sh_a3 he) (by omega) (by decide) rfl rfl rfl ?_
        refine V.mmin (v := mnF r (M (e+3) b)) dX2_sell_49 mm_X2_101 ⟨Nat.le_of_ble_eq_true rfl, Nat.le_of_ble_eq_true rfl⟩ rfl rfl ?_
        refine V.ist dX2_sell_52 (by decide) (L' := [(0, .ref e), (1, .int r0), (2, .int fr), (3, .int to_), (4, .int pt), (5, .int r), (6, .int (nI i)), (7, .int (nI b)), (8, .int (mnF r (M (e+3) b)))]) rfl rfl ?_
        refine V.aload_n dX2_sell_54 rfl rfl rfl ?_
        refine V.getr dX2_sell_55 fg_X2_12 (sh_ev he) rfl rfl ?_
        refine V.getr dX2_sell_58 fg_X2_128 (sh_nu he) rfl rfl ?_
        refine V.iload dX2_sell_61 rfl rfl ?_
        refine V.ialdN (j := b) (v := M (e+2) b) dX2_sell_63 (sh_a2 he) (by omega) (by decide) rfl rfl rfl ?_
        refine V.aload_n dX2_sell_64 rfl rfl rfl ?_
        refine V.geti (v := nI p) dX2_sell_65 fg_X2_36 (sh_ev he) rfl hP rfl ?_
        refine V.calls_i (M1 := M) (v := worthF (M (e+2) b) (nI p)) (md' := m_X3_worthOf) (As := [.int (M (e+2) b), .int (nI p)]) (rest := []) dX2_sell_68 ml_X2_131 mo_X3_worthOf ⟨Nat.le_of_ble_eq_true rfl, Nat.le_of_ble_eq_true rfl⟩ (Nat.le_of_ble_eq_true rfl) rfl rfl (Nat.le_of_ble_eq_true rfl) (v_X3_worthOf (M (e+2) b) (n := p) hp _) rfl ?_
        refine V.ist dX2_sell_71 (by decide) (L' := [(0, .ref e), (1, .int r0), (2, .int fr), (3, .int to_), (4, .int pt), (5, .int r), (6, .int (nI i)), (7, .int (nI b)), (8, .int (mnF r (M (e+3) b))), (9, .int (worthF (M (e+2) b) (nI p)))]) rfl rfl ?_
        refine V.aload_n dX2_sell_73 rfl rfl rfl ?_
        refine V.getr dX2_sell_74 fg_X2_12 (sh_ev he) rfl rfl ?_
        refine V.getr dX2_sell_77 fg_X2_125 (sh_nu he) rfl rfl ?_
        refine V.iload dX2_sell_80 rfl rfl ?_
        refine V.dup2 dX2_sell_82 rfl rfl rfl ?_
        refine V.ialdN (j := b) (v := M (e+3) b) dX2_sell_83 (sh_a3 he) (by omega) (by decide) rfl rfl rfl ?_
        refine V.iload dX2_sell_84 rfl rfl ?_
        refine V.isub (v := (M (e+3) b) - (mnF r (M (e+3) b))) dX2_sell_86 rfl rfl ?_
        refine V.iastN (j := b) dX2_sell_87 (sh_a3 he) (by omega) (by decide) rfl (M' := (ms M (e+3) b ((M (e+3) b) - (mnF r (M (e+3) b))))) rfl rfl ?_
        refine V.aload_n dX2_sell_88 rfl rfl rfl ?_
        refine V.dup dX2_sell_89 rfl rfl ?_
        refine V.geti (v := M e 8) dX2_sell_90 fg_X2_45 (sh_ev he) rfl (by simp [ms]) rfl ?_
        refine V.iload dX2_sell_93 rfl rfl ?_
        refine V.iload dX2_sell_95 rfl rfl ?_
        refine V.iconst (v := 2) dX2_sell_97 rfl rfl ?_
        refine V.icmp_ne (tgt := 108) dX2_sell_98 rfl rfl (fun c98 => ?_) (fun c98 => ?_)
        · skip
          refine V.iload dX2_sell_108 rfl rfl ?_
          refine V.imul (v := (mnF r (M (e+3) b)) * (worthF (M (e+2) b) (nI p))) dX2_sell_110 rfl rfl ?_
          refine V.iadd (v := (M e 8) + ((mnF r (M (e+3) b)) * (worthF (M (e+2) b) (nI p)))) dX2_sell_111 rfl rfl ?_
          refine V.puti dX2_sell_112 fp_X2_45 (sh_ev he) rfl rfl rfl (M' := (ms (ms M (e+3) b ((M (e+3) b) - (mnF r (M (e+3) b)))) e 8 ((M e 8) + ((mnF r (M (e+3) b)) * (worthF (M (e+2) b) (nI p)))))) rfl rfl ?_
          refine V.aload_n dX2_sell_115 rfl rfl rfl ?_
          refine V.dup dX2_sell_116 rfl rfl ?_
          refine V.geti (v := M e 11) dX2_sell_117 fg_X2_54 (sh_ev he) rfl (by simp [ms]) rfl ?_
          refine V.iload dX2_sell_120 rfl rfl ?_
          refine V.iadd (v := (M e 11) + (mnF r (M (e+3) b))) dX2_sell_122 rfl rfl ?_
          refine V.puti dX2_sell_123 fp_X2_54 (sh_ev he) rfl rfl rfl (M' := (ms (ms (ms M (e+3) b ((M (e+3) b) - (mnF r (M (e+3) b)))) e 8 ((M e 8) + ((mnF r (M (e+3) b)) * (worthF (M (e+2) b) (nI p))))) e 11 ((M e 11) + (mnF r (M (e+3) b))))) rfl rfl ?_
          refine V.iload dX2_sell_126 rfl rfl ?_
          refine V.iload dX2_sell_128 rfl rfl ?_
          refine V.isub (v := r - (mnF r (M (e+3) b))) dX2_sell_130 rfl rfl ?_
          refine V.ist dX2_sell_131 (by decide) (L' := [(0, .ref e), (1, .int r0), (2, .int fr), (3, .int to_), (4, .int pt), (5, .int (r - (mnF r (M (e+3) b)))), (6, .int (nI i)), (7, .int (nI b)), (8, .int (mnF r (M (e+3) b))), (9, .int (worthF (M (e+2) b) (nI p)))]) rfl rfl ?_
          refine V.inc (v := nI (i + 1)) dX2_sell_133 rfl (nI_1 _) (by decide) (L' := [(0, .ref e), (1, .int r0), (2, .int fr), (3, .int to_), (4, .int pt), (5, .int (r - (mnF r (M (e+3) b)))), (6, .int (nI (i + 1))), (7, .int (nI b)), (8, .int (mnF r (M (e+3) b))), (9, .int (worthF (M (e+2) b) (nI p)))]) rfl rfl ?_
          refine V.goto (pc' := 6) dX2_sell_136 rfl ?_
          refine V.loc (L' := [(0, .ref e), (1, .int r0), (2, .int fr), (3, .int to_), (4, .int pt), (5, .int (r - (mnF r (M (e+3) b)))), (6, .int (nI (i + 1)))]) (fun q h => List.mem_append_left [(7, Value.int (nI b)), (8, Value.int (mnF r (M (e+3) b))), (9, Value.int (worthF (M (e+2) b) (nI p)))] h) ?_
          have e1 : selG e p c fr to_ pt (n + 1) r M = selG e p c fr to_ pt n (r - mnF r (M (e+3) b)) (selM e p pt b r M) := by simp only [selG]; rw [if_pos d15, ho]
          have e2 : (ms (ms (ms M (e+3) b ((M (e+3) b) - (mnF r (M (e+3) b)))) e 8 ((M e 8) + ((mnF r (M (e+3) b)) * (worthF (M (e+2) b) (nI p))))) e 11 ((M e 11) + (mnF r (M (e+3) b)))) = selM e p pt b r M := by rw [selM, if_neg c98]
          rw [e1, e2]
          exact ih (i + 1) _ _ (by rw [selM_k (by omega) (by omega)]; exact hM) (by rw [selM_f (by decide) (by decide)]; exact hP) (by omega)
        · skip
          refine V.iload dX2_sell_101 rfl rfl ?_
          refine V.iconst (v := 2) dX2_sell_103 rfl rfl ?_
          refine V.idiv (v := (worthF (M (e+2) b) (nI p)) / 2) dX2_sell_104 (by decide) rfl rfl ?_
          refine V.goto (pc' := 110) dX2_sell_105 rfl ?_
          refine V.imul (v := (mnF r (M (e+3) b)) * ((worthF (M (e+2) b) (nI p)) / 2)) dX2_sell_110 rfl rfl ?_
          refine V.iadd (v := (M e 8) + ((mnF r (M (e+3) b)) * ((worthF (M (e+2) b) (nI p)) / 2))) dX2_sell_111 rfl rfl ?_
          refine V.puti dX2_sell_112 fp_X2_45 (sh_ev he) rfl rfl rfl (M' := (ms (ms M (e+3) b ((M (e+3) b) - (mnF r (M (e+3) b)))) e 8 ((M e 8) + ((mnF r (M (e+3) b)) * ((worthF (M (e+2) b) (nI p)) / 2))))) rfl rfl ?_
          refine V.aload_n dX2_sell_115 rfl rfl rfl ?_
          refine V.dup dX2_sell_116 rfl rfl ?_
          refine V.geti (v := M e 11) dX2_sell_117 fg_X2_54 (sh_ev he) rfl (by simp [ms]) rfl ?_
          refine V.iload dX2_sell_120 rfl rfl ?_
          refine V.iadd (v := (M e 11) + (mnF r (M (e+3) b))) dX2_sell_122 rfl rfl ?_
          refine V.puti dX2_sell_123 fp_X2_54 (sh_ev he) rfl rfl rfl (M' := (ms (ms (ms M (e+3) b ((M (e+3) b) - (mnF r (M (e+3) b)))) e 8 ((M e 8) + ((mnF r (M (e+3) b)) * ((worthF (M (e+2) b) (nI p)) / 2)))) e 11 ((M e 11) + (mnF r (M (e+3) b))))) rfl rfl ?_
          refine V.iload dX2_sell_126 rfl rfl ?_
          refine V.iload dX2_sell_128 rfl rfl ?_
          refine V.isub (v := r - (mnF r (M (e+3) b))) dX2_sell_130 rfl rfl ?_
          refine V.ist dX2_sell_131 (by decide) (L' := [(0, .ref e), (1, .int r0), (2, .int fr), (3, .int to_), (4, .int pt), (5, .int (r - (mnF r (M (e+3) b)))), (6, .int (nI i)), (7, .int (nI b)), (8, .int (mnF r (M (e+3) b))), (9, .int (worthF (M (e+2) b) (nI p)))]) rfl rfl ?_
          refine V.inc (v := nI (i + 1)) dX2_sell_133 rfl (nI_1 _) (by decide) (L' := [(0, .ref e), (1, .int r0), (2, .int fr), (3, .int to_), (4, .int pt), (5, .int (r - (mnF r (M (e+3) b)))), (6, .int (nI (i + 1))), (7, .int (nI b)), (8, .int (mnF r (M (e+3) b))), (9, .int (worthF (M (e+2) b) (nI p)))]) rfl rfl ?_
          refine V.goto (pc' := 6) dX2_sell_136 rfl ?_
          refine V.loc (L' := [(0, .ref e), (1, .int r0), (2, .int fr), (3, .int to_), (4, .int pt), (5, .int (r - (mnF r (M (e+3) b)))), (6, .int (nI (i + 1)))]) (fun q h => List.mem_append_left [(7, Value.int (nI b)), (8, Value.int (mnF r (M (e+3) b))), (9, Value.int (worthF (M (e+2) b) (nI p)))] h) ?_
          have e1 : selG e p c fr to_ pt (n + 1) r M = selG e p c fr to_ pt n (r - mnF r (M (e+3) b)) (selM e p pt b r M) := by simp only [selG]; rw [if_pos d15, ho]
          have e2 : (ms (ms (ms M (e+3) b ((M (e+3) b) - (mnF r (M (e+3) b)))) e 8 ((M e 8) + ((mnF r (M (e+3) b)) * ((worthF (M (e+2) b) (nI p)) / 2)))) e 11 ((M e 11) + (mnF r (M (e+3) b)))) = selM e p pt b r M := by rw [selM, if_pos c98]
          rw [e1, e2]
          exact ih (i + 1) _ _ (by rw [selM_k (by omega) (by omega)]; exact hM) (by rw [selM_f (by decide) (by decide)]; exact hP) (by omega)
theorem v_X2_sell {e : Nat} (he : isE e) {c : Nat} (hc : c ≤ 10) {p : Nat} (hp : p ≤ 100) (r fr to_ pt : Int32) (M : Mem) (hM : M (e+1) 5 = nI c) (hP : M e 5 = nI p) : V m_X2_sell 0 [(0, .ref e), (1, .int r), (2, .int fr), (3, .int to_), (4, .int pt)] [] M (RT (some (.int ((selG e p c fr to_ pt 10 r M).1))) ((selG e p c fr to_ pt 10 r M).2)) := by
  refine V.iload_n dX2_sell_0 rfl rfl rfl ?_
  refine V.ist dX2_sell_1 (by decide) (L' := [(0, .ref e), (1, .int r), (2, .int fr), (3, .int to_), (4, .int pt), (5, .int r)]) rfl rfl ?_
  refine V.iconst (v := 0) dX2_sell_3 rfl rfl ?_
  refine V.ist dX2_sell_4 (by decide) (L' := [(0, .ref e), (1, .int r), (2, .int fr), (3, .int to_), (4, .int pt), (5, .int r), (6, .int 0)]) rfl rfl ?_
  exact l_X2_sell he hc hp r fr to_ pt 10 0 r M hM hP rfl
