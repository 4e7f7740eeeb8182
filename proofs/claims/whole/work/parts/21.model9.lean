/-! The reference's plays: what is tried is put back -/
def SV (M : Mem) : Mem := rowG 65 63 116 0 M
theorem rowG_k {a b k : Nat} (hk : k ≠ a) : ∀ (n i : Nat) (M : Mem), rowG a b n i M k = M k := by
  intro n
  induction n with
  | zero => intro i M; rfl
  | succ n ih => intro i M; simp only [rowG]; rw [ih, ms_k hk]
theorem rowG_o {a b j : Nat} : ∀ (n i : Nat) (M : Mem), j < i ∨ i + n ≤ j → rowG a b n i M a j = M a j := by
  intro n
  induction n with
  | zero => intro i M h; rfl
  | succ n ih => intro i M h; simp only [rowG]; rw [ih (i + 1) _ (by omega), ms_j (by omega)]
theorem rowG_i {a b j : Nat} (hab : b ≠ a) : ∀ (n i : Nat) (M : Mem), i ≤ j → j < i + n → rowG a b n i M a j = M b j := by
  intro n
  induction n with
  | zero => intro i M h1 h2; omega
  | succ n ih =>
    intro i M h1 h2
    simp only [rowG]
    by_cases q : i = j
    · subst q; rw [rowG_o _ _ _ (by omega), ms_s]
    · rw [ih (i + 1) _ (by omega) (by omega), ms_k hab]
theorem SV_k {M : Mem} {k : Nat} (h : k ≠ 65) : SV M k = M k := rowG_k h _ _ _
theorem SV_63 {M : Mem} : SV M 63 = M 63 := SV_k (by decide)
theorem SV_65 {M : Mem} {j : Nat} (h : j < 116) : SV M 65 j = M 63 j := rowG_i (by decide) _ _ _ (Nat.zero_le j) (by omega)
def Off (M' M : Mem) : Prop := (∀ k, k ≠ 63 → M' k = SV M k) ∧ ∀ j, 116 ≤ j → M' 63 j = M 63 j
theorem off_self (M : Mem) : Off (SV M) M := ⟨fun _ _ => rfl, fun j _ => by rw [SV_63]⟩
theorem off_ms {M' M : Mem} {j : Nat} {v : Int32} (hj : j < 116) (h : Off M' M) : Off (ms M' 63 j v) M :=
  ⟨fun k hk => by rw [ms_k hk]; exact h.1 k hk, fun i hi => by rw [ms_j (by omega)]; exact h.2 i hi⟩
theorem mMin_j {c cc m j : Nat} {M : Mem} (hc : c ≤ 10) (h : 70 ≤ j) : mMin c cc m M 63 j = M 63 j := by
  rw [mMin, ms_j (by omega), x3M_j hc (by omega) (by omega) (by omega) (by omega) (by omega) (by omega), x1M_j (by omega) (by omega)]
theorem off_min {c cc m : Nat} {M' M : Mem} (hc : c ≤ 10) (h : Off M' M) : Off (mMin c cc m M') M :=
  ⟨fun k hk => by rw [mMin_k hk]; exact h.1 k hk, fun j hj => by rw [mMin_j hc (by omega)]; exact h.2 j hj⟩
theorem off_go {c cc : Nat} {M : Mem} (hc : c ≤ 10) : ∀ (n m : Nat) (M' : Mem), Off M' M → Off (mGo c cc n m M') M := by
  intro n
  induction n with
  | zero => intro m M' h; exact h
  | succ n ih => intro m M' h; exact ih (m + 1) _ (off_min hc h)
theorem backs {M' M : Mem} (h : Off M' M) : rowG 63 65 116 0 M' = SV M := by
  funext k j
  by_cases hk : k = 63
  · subst hk
    by_cases hj : j < 116
    · rw [rowG_i (by decide) _ _ _ (Nat.zero_le j) (by omega), h.1 65 (by decide), SV_65 hj, SV_63]
    · rw [rowG_o _ _ _ (by omega), h.2 j (by omega), SV_63]
  · rw [rowG_k hk, h.1 k hk]
theorem v_back {M' M : Mem} (h : Off M' M) : V m_X9_putsBack 0 [(0, .ref 62)] [] M' (RT none (SV M)) := by
  rw [← backs h]
  exact v_X9_putsBack M'
theorem SV_SV (M : Mem) : SV (SV M) = SV M := by
  funext k j
  by_cases hk : k = 65
  · subst hk
    by_cases hj : j < 116
    · rw [SV_65 hj, SV_65 hj, SV_63]
    · rw [show SV (SV M) 65 j = SV M 65 j from rowG_o _ _ _ (by omega)]
  · rw [SV_k hk]
theorem WM_go {c cc : Nat} (hc : c ≤ 10) : ∀ (n m : Nat) (M : Mem), WM c cc m M → WM c cc (m + n) (mGo c cc n m M) := by
  intro n
  induction n with
  | zero => intro m M h; exact h
  | succ n ih =>
    intro m M h
    rw [show m + (n + 1) = m + 1 + n by omega]
    exact ih (m + 1) _ (WM_min hc h)
def cnF (c cc n m : Nat) (M' M : Mem) : Int32 := mGo c cc n m M' 63 7 - M 63 7
def bestG (f g : Nat → Int32) : Nat → Nat → Int32 → Int32 → Int32
  | 0, _, b, _ => b
  | n + 1, i, b, mo => bestG f g n (i + 1) (if mo < f i then g i else b) (if mo < f i then f i else mo)
theorem v_X9_coinIn {c : Nat} (hc : c ≤ 10) {cc : Nat} (hcc : cc ≤ 12) {n m : Nat} (hn : n ≤ 300) (hmn : m + n ≤ 5000) (M M' : Mem) (hO : Off M' M) (hW : WM c cc m M') : V m_X9_coinIn 0 [(0, .ref 62), (1, .int (nI n))] [] M' (RT (some (.int (cnF c cc n m M' M))) (SV M)) := by
  refine V.aload_n dX9_coinIn_0 rfl rfl rfl ?_
  refine V.iload_n dX9_coinIn_1 rfl rfl rfl ?_
  refine V.callv_v (M1 := mGo c cc n m M') (md' := m_X9_minutesGo) (As := [.int (nI n)]) (rest := []) dX9_coinIn_2 ml_X9_174 mo_X9_minutesGo ⟨Nat.le_of_ble_eq_true rfl, Nat.le_of_ble_eq_true rfl⟩ rfl ⟨_, _, rfl⟩ (Nat.le_of_ble_eq_true rfl) rfl rfl (Nat.le_of_ble_eq_true rfl) (v_X9_minutesGo hc hcc (by omega) _ hW hmn) rfl ?_
  refine V.aload_n dX9_coinIn_5 rfl rfl rfl ?_
  refine V.getr dX9_coinIn_6 fg_X9_7 rfl rfl rfl ?_
  refine V.bipush (v := 7) dX9_coinIn_9 (by decide) rfl ?_
  refine V.ialdN (j := 7) (v := (mGo c cc n m M') 63 7) dX9_coinIn_11 rfl (by decide) (by decide) rfl rfl rfl ?_
  refine V.aload_n dX9_coinIn_12 rfl rfl rfl ?_
  refine V.getr dX9_coinIn_13 fg_X9_16 rfl rfl rfl ?_
  refine V.bipush (v := 7) dX9_coinIn_16 (by decide) rfl ?_
  refine V.ialdN (j := 7) (v := M 63 7) dX9_coinIn_18 rfl (by decide) (by decide) rfl (by rw [mGo_k (by decide), hO.1 65 (by decide), SV_65 (by decide)]) rfl ?_
  refine V.isub (v := ((mGo c cc n m M') 63 7) - (M 63 7)) dX9_coinIn_19 rfl rfl ?_
  refine V.ist_n dX9_coinIn_20 rfl (by decide) (L' := [(0, .ref 62), (1, .int (nI n)), (2, .int (((mGo c cc n m M') 63 7) - (M 63 7)))]) rfl rfl ?_
  refine V.aload_n dX9_coinIn_21 rfl rfl rfl ?_
  refine V.callv_v (M1 := SV M) (md' := m_X9_putsBack) (As := []) (rest := []) dX9_coinIn_22 ml_X9_188 mo_X9_putsBack ⟨Nat.le_of_ble_eq_true rfl, Nat.le_of_ble_eq_true rfl⟩ rfl ⟨_, _, rfl⟩ (Nat.le_of_ble_eq_true rfl) rfl rfl (Nat.le_of_ble_eq_true rfl) (v_back (off_go hc n m _ hO)) rfl ?_
  refine V.iload_n dX9_coinIn_25 rfl rfl rfl ?_
  exact V.ret dX9_coinIn_26 rfl rfl ⟨rfl, rfl⟩
def prF (c cc k m : Nat) (M : Mem) : Nat → Int32 := fun p => cnF c cc k m (ms (SV M) 63 5 (nI p)) M
def shF (c cc k m : Nat) (M : Mem) : Nat → Int32 := fun p => cnF c cc k m (ms (SV M) 63 19 (M 63 19 + nI p)) M
def coF (c cc k m : Nat) (M : Mem) : Nat → Int32 := fun p => cnF c cc k m (mWalkM (nI p) (SV M)) M
def kdF (c cc k m b : Nat) (M : Mem) : Nat → Int32 := fun p => cnF c cc k m (ms (SV M) 63 (20 + 5 * b) (nI p)) M
theorem off_walk {M' M : Mem} {t : Int32} (h : Off M' M) : Off (mWalkM t M') M := off_ms (by decide) (off_ms (by decide) h)
theorem l_X9_price {c : Nat} (hc : c ≤ 10) {cc : Nat} (hcc : cc ≤ 12) {k m : Nat} (hk : k ≤ 120) (hm : m ≤ 3000) (M : Mem) (hW : ∀ p, p < 100 → WM c cc m (ms (SV M) 63 5 (nI p))) : ∀ (n i : Nat) (b mo : Int32), i + n = 100 → V m_X9_price 40 [(0, .ref 62), (1, .int (nI k)), (2, .int b), (3, .int mo), (4, .int (nI i))] [] (SV M) (RT (some (.int (bestG (prF c cc k m M) nI n i b mo))) (SV M)) := by
  intro n
  induction n with
  | zero =>
    intro i b mo hi
    refine V.iload dX9_price_40 rfl rfl ?_
    refine V.bipush (v := 100) dX9_price_42 (by decide) rfl ?_
    refine V.icmp_ge (tgt := 94) dX9_price_44 rfl rfl (fun c44 => ?_) (fun c44 => absurd ((nI_leI (a := 100) (b := i) (by omega) (by omega)).mpr (by omega)) c44)
    have c44 : 100 ≤ i := (nI_leI (a := 100) (b := i) (by omega) (by omega)).mp c44
    refine V.iload_n dX9_price_94 rfl rfl rfl ?_
    exact V.ret dX9_price_95 rfl rfl ⟨rfl, rfl⟩
  | succ n ih =>
    intro i b mo hi
    refine V.iload dX9_price_40 rfl rfl ?_
    refine V.bipush (v := 100) dX9_price_42 (by decide) rfl ?_
    refine V.icmp_ge (tgt := 94) dX9_price_44 rfl rfl (fun c44 => absurd ((nI_leI (a := 100) (b := i) (by omega) (by omega)).mp c44) (by omega)) (fun c44 => ?_)
    have c44 : ¬ 100 ≤ i := fun zq => c44 ((nI_leI (a := 100) (b := i) (by omega) (by omega)).mpr zq)
    refine V.aload_n dX9_price_47 rfl rfl rfl ?_
    refine V.getr dX9_price_48 fg_X9_7 rfl rfl rfl ?_
    refine V.iconst (v := 5) dX9_price_51 rfl rfl ?_
    refine V.iload dX9_price_52 rfl rfl ?_
    refine V.iastN (j := 5) dX9_price_54 rfl (by decide) (by decide) rfl (M' := (ms (SV M) 63 5 (nI i))) rfl rfl ?_
    refine V.aload_n dX9_price_55 rfl rfl rfl ?_
    refine V.iload_n dX9_price_56 rfl rfl rfl ?_
    refine V.callv_i (M1 := SV M) (v := prF c cc k m M i) (md' := m_X9_coinIn) (As := [.int (nI k)]) (rest := []) dX9_price_57 ml_X9_205 mo_X9_coinIn ⟨Nat.le_of_ble_eq_true rfl, Nat.le_of_ble_eq_true rfl⟩ rfl ⟨_, _, rfl⟩ (Nat.le_of_ble_eq_true rfl) rfl rfl (Nat.le_of_ble_eq_true rfl) (v_X9_coinIn hc hcc (n := k) (m := m) (by omega) (by omega) M _ (off_ms (by decide) (off_self M)) (hW i (by omega))) rfl ?_
    refine V.ist dX9_price_60 (by decide) (L' := [(0, .ref 62), (1, .int (nI k)), (2, .int b), (3, .int mo), (4, .int (nI i)), (5, .int (prF c cc k m M i))]) rfl rfl ?_
    refine V.iload dX9_price_62 rfl rfl ?_
    refine V.iload_n dX9_price_64 rfl rfl rfl ?_
    refine V.icmp_le (tgt := 73) dX9_price_65 rfl rfl (fun c65 => ?_) (fun c65 => ?_)
    · skip
      refine V.iload_n dX9_price_73 rfl rfl rfl ?_
      refine V.ist_n dX9_price_74 rfl (by decide) (L' := [(0, .ref 62), (1, .int (nI k)), (2, .int b), (3, .int mo), (4, .int (nI i)), (5, .int (prF c cc k m M i))]) rfl rfl ?_
      refine V.iload dX9_price_75 rfl rfl ?_
      refine V.iload_n dX9_price_77 rfl rfl rfl ?_
      refine V.icmp_le (tgt := 86) dX9_price_78 rfl rfl (fun c78 => ?_) (fun c78 => absurd c78 (fun q => q c65))
      refine V.iload_n dX9_price_86 rfl rfl rfl ?_
      refine V.ist_n dX9_price_87 rfl (by decide) (L' := [(0, .ref 62), (1, .int (nI k)), (2, .int b), (3, .int mo), (4, .int (nI i)), (5, .int (prF c cc k m M i))]) rfl rfl ?_
      refine V.inc (v := nI (i + 1)) dX9_price_88 rfl (nI_1 _) (by decide) (L' := [(0, .ref 62), (1, .int (nI k)), (2, .int b), (3, .int mo), (4, .int (nI (i + 1))), (5, .int (prF c cc k m M i))]) rfl rfl ?_
      refine V.goto (pc' := 40) dX9_price_91 rfl ?_
      refine V.loc (L' := [(0, .ref 62), (1, .int (nI k)), (2, .int b), (3, .int mo), (4, .int (nI (i + 1)))]) (fun zq zh => List.mem_append_left [(5, Value.int (prF c cc k m M i))] zh) ?_
      rw [show bestG (prF c cc k m M) nI (n + 1) i b mo = bestG (prF c cc k m M) nI n (i + 1) b mo from by simp only [bestG]; rw [if_neg (Int32.not_lt.mpr c65), if_neg (Int32.not_lt.mpr c65)]]
      exact ih (i + 1) _ _ (by omega)
    · skip
      refine V.iload dX9_price_68 rfl rfl ?_
      refine V.goto (pc' := 74) dX9_price_70 rfl ?_
      refine V.ist_n dX9_price_74 rfl (by decide) (L' := [(0, .ref 62), (1, .int (nI k)), (2, .int (nI i)), (3, .int mo), (4, .int (nI i)), (5, .int (prF c cc k m M i))]) rfl rfl ?_
      refine V.iload dX9_price_75 rfl rfl ?_
      refine V.iload_n dX9_price_77 rfl rfl rfl ?_
      refine V.icmp_le (tgt := 86) dX9_price_78 rfl rfl (fun c78 => absurd c78 c65) (fun c78 => ?_)
      refine V.iload dX9_price_81 rfl rfl ?_
      refine V.goto (pc' := 87) dX9_price_83 rfl ?_
      refine V.ist_n dX9_price_87 rfl (by decide) (L' := [(0, .ref 62), (1, .int (nI k)), (2, .int (nI i)), (3, .int (prF c cc k m M i)), (4, .int (nI i)), (5, .int (prF c cc k m M i))]) rfl rfl ?_
      refine V.inc (v := nI (i + 1)) dX9_price_88 rfl (nI_1 _) (by decide) (L' := [(0, .ref 62), (1, .int (nI k)), (2, .int (nI i)), (3, .int (prF c cc k m M i)), (4, .int (nI (i + 1))), (5, .int (prF c cc k m M i))]) rfl rfl ?_
      refine V.goto (pc' := 40) dX9_price_91 rfl ?_
      refine V.loc (L' := [(0, .ref 62), (1, .int (nI k)), (2, .int (nI i)), (3, .int (prF c cc k m M i)), (4, .int (nI (i + 1)))]) (fun zq zh => List.mem_append_left [(5, Value.int (prF c cc k m M i))] zh) ?_
      rw [show bestG (prF c cc k m M) nI (n + 1) i b mo = bestG (prF c cc k m M) nI n (i + 1) (nI i) (prF c cc k m M i) from by simp only [bestG]; rw [if_pos (Int32.not_le.mp c65), if_pos (Int32.not_le.mp c65)]]
      exact ih (i + 1) _ _ (by omega)
theorem l_X9_shovels {c : Nat} (hc : c ≤ 10) {cc : Nat} (hcc : cc ≤ 12) {k m : Nat} (hk : k ≤ 120) (hm : m ≤ 3000) (M : Mem) (hW : ∀ p, p < 10 → WM c cc m (ms (SV M) 63 19 (M 63 19 + nI p))) : ∀ (n i : Nat) (b mo : Int32), i + n = 10 → V m_X9_shovels 40 [(0, .ref 62), (1, .int (nI k)), (2, .int b), (3, .int mo), (4, .int (nI i))] [] (SV M) (RT (some (.int (bestG (shF c cc k m M) nI n i b mo))) (SV M)) := by
  intro n
  induction n with
  | zero =>
    intro i b mo hi
    refine V.iload dX9_shovels_40 rfl rfl ?_
    refine V.bipush (v := 10) dX9_shovels_42 (by decide) rfl ?_
    refine V.icmp_ge (tgt := 98) dX9_shovels_44 rfl rfl (fun c44 => ?_) (fun c44 => absurd ((nI_leI (a := 10) (b := i) (by omega) (by omega)).mpr (by omega)) c44)
    have c44 : 10 ≤ i := (nI_leI (a := 10) (b := i) (by omega) (by omega)).mp c44
    refine V.iload_n dX9_shovels_98 rfl rfl rfl ?_
    exact V.ret dX9_shovels_99 rfl rfl ⟨rfl, rfl⟩
  | succ n ih =>
    intro i b mo hi
    refine V.iload dX9_shovels_40 rfl rfl ?_
    refine V.bipush (v := 10) dX9_shovels_42 (by decide) rfl ?_
    refine V.icmp_ge (tgt := 98) dX9_shovels_44 rfl rfl (fun c44 => absurd ((nI_leI (a := 10) (b := i) (by omega) (by omega)).mp c44) (by omega)) (fun c44 => ?_)
    have c44 : ¬ 10 ≤ i := fun zq => c44 ((nI_leI (a := 10) (b := i) (by omega) (by omega)).mpr zq)
    refine V.aload_n dX9_shovels_47 rfl rfl rfl ?_
    refine V.getr dX9_shovels_48 fg_X9_7 rfl rfl rfl ?_
    refine V.bipush (v := 19) dX9_shovels_51 (by decide) rfl ?_
    refine V.dup2 dX9_shovels_53 rfl rfl rfl ?_
    refine V.ialdN (j := 19) (v := M 63 19) dX9_shovels_54 rfl (by decide) (by decide) rfl (by rw [SV_63]) rfl ?_
    refine V.iload dX9_shovels_55 rfl rfl ?_
    refine V.iadd (v := (M 63 19) + (nI i)) dX9_shovels_57 rfl rfl ?_
    refine V.iastN (j := 19) dX9_shovels_58 rfl (by decide) (by decide) rfl (M' := (ms (SV M) 63 19 ((M 63 19) + (nI i)))) rfl rfl ?_
    refine V.aload_n dX9_shovels_59 rfl rfl rfl ?_
    refine V.iload_n dX9_shovels_60 rfl rfl rfl ?_
    refine V.callv_i (M1 := SV M) (v := shF c cc k m M i) (md' := m_X9_coinIn) (As := [.int (nI k)]) (rest := []) dX9_shovels_61 ml_X9_205 mo_X9_coinIn ⟨Nat.le_of_ble_eq_true rfl, Nat.le_of_ble_eq_true rfl⟩ rfl ⟨_, _, rfl⟩ (Nat.le_of_ble_eq_true rfl) rfl rfl (Nat.le_of_ble_eq_true rfl) (v_X9_coinIn hc hcc (n := k) (m := m) (by omega) (by omega) M _ (off_ms (by decide) (off_self M)) (hW i (by omega))) rfl ?_
    refine V.ist dX9_shovels_64 (by decide) (L' := [(0, .ref 62), (1, .int (nI k)), (2, .int b), (3, .int mo), (4, .int (nI i)), (5, .int (shF c cc k m M i))]) rfl rfl ?_
    refine V.iload dX9_shovels_66 rfl rfl ?_
    refine V.iload_n dX9_shovels_68 rfl rfl rfl ?_
    refine V.icmp_le (tgt := 77) dX9_shovels_69 rfl rfl (fun c69 => ?_) (fun c69 => ?_)
    · skip
      refine V.iload_n dX9_shovels_77 rfl rfl rfl ?_
      refine V.ist_n dX9_shovels_78 rfl (by decide) (L' := [(0, .ref 62), (1, .int (nI k)), (2, .int b), (3, .int mo), (4, .int (nI i)), (5, .int (shF c cc k m M i))]) rfl rfl ?_
      refine V.iload dX9_shovels_79 rfl rfl ?_
      refine V.iload_n dX9_shovels_81 rfl rfl rfl ?_
      refine V.icmp_le (tgt := 90) dX9_shovels_82 rfl rfl (fun c82 => ?_) (fun c82 => absurd c82 (fun q => q c69))
      refine V.iload_n dX9_shovels_90 rfl rfl rfl ?_
      refine V.ist_n dX9_shovels_91 rfl (by decide) (L' := [(0, .ref 62), (1, .int (nI k)), (2, .int b), (3, .int mo), (4, .int (nI i)), (5, .int (shF c cc k m M i))]) rfl rfl ?_
      refine V.inc (v := nI (i + 1)) dX9_shovels_92 rfl (nI_1 _) (by decide) (L' := [(0, .ref 62), (1, .int (nI k)), (2, .int b), (3, .int mo), (4, .int (nI (i + 1))), (5, .int (shF c cc k m M i))]) rfl rfl ?_
      refine V.goto (pc' := 40) dX9_shovels_95 rfl ?_
      refine V.loc (L' := [(0, .ref 62), (1, .int (nI k)), (2, .int b), (3, .int mo), (4, .int (nI (i + 1)))]) (fun zq zh => List.mem_append_left [(5, Value.int (shF c cc k m M i))] zh) ?_
      rw [show bestG (shF c cc k m M) nI (n + 1) i b mo = bestG (shF c cc k m M) nI n (i + 1) b mo from by simp only [bestG]; rw [if_neg (Int32.not_lt.mpr c69), if_neg (Int32.not_lt.mpr c69)]]
      exact ih (i + 1) _ _ (by omega)
    · skip
      refine V.iload dX9_shovels_72 rfl rfl ?_
      refine V.goto (pc' := 78) dX9_shovels_74 rfl ?_
      refine V.ist_n dX9_shovels_78 rfl (by decide) (L' := [(0, .ref 62), (1, .int (nI k)), (2, .int (nI i)), (3, .int mo), (4, .int (nI i)), (5, .int (shF c cc k m M i))]) rfl rfl ?_
      refine V.iload dX9_shovels_79 rfl rfl ?_
      refine V.iload_n dX9_shovels_81 rfl rfl rfl ?_
      refine V.icmp_le (tgt := 90) dX9_shovels_82 rfl rfl (fun c82 => absurd c82 c69) (fun c82 => ?_)
      refine V.iload dX9_shovels_85 rfl rfl ?_
      refine V.goto (pc' := 91) dX9_shovels_87 rfl ?_
      refine V.ist_n dX9_shovels_91 rfl (by decide) (L' := [(0, .ref 62), (1, .int (nI k)), (2, .int (nI i)), (3, .int (shF c cc k m M i)), (4, .int (nI i)), (5, .int (shF c cc k m M i))]) rfl rfl ?_
      refine V.inc (v := nI (i + 1)) dX9_shovels_92 rfl (nI_1 _) (by decide) (L' := [(0, .ref 62), (1, .int (nI k)), (2, .int (nI i)), (3, .int (shF c cc k m M i)), (4, .int (nI (i + 1))), (5, .int (shF c cc k m M i))]) rfl rfl ?_
      refine V.goto (pc' := 40) dX9_shovels_95 rfl ?_
      refine V.loc (L' := [(0, .ref 62), (1, .int (nI k)), (2, .int (nI i)), (3, .int (shF c cc k m M i)), (4, .int (nI (i + 1)))]) (fun zq zh => List.mem_append_left [(5, Value.int (shF c cc k m M i))] zh) ?_
      rw [show bestG (shF c cc k m M) nI (n + 1) i b mo = bestG (shF c cc k m M) nI n (i + 1) (nI i) (shF c cc k m M i) from by simp only [bestG]; rw [if_pos (Int32.not_le.mp c69), if_pos (Int32.not_le.mp c69)]]
      exact ih (i + 1) _ _ (by omega)
theorem l_X9_corner {c : Nat} (hc : c ≤ 10) {cc : Nat} (hcc : cc ≤ 12) {k m : Nat} (hk : k ≤ 120) (hm : m ≤ 3000) (M : Mem) (hW : ∀ p, p < 4 → WM c cc m (mWalkM (nI p) (SV M))) : ∀ (n i : Nat) (b mo : Int32), i + n = 4 → V m_X9_corner 50 [(0, .ref 62), (1, .int (nI k)), (2, .int b), (3, .int mo), (4, .int (nI i))] [] (SV M) (RT (some (.int (bestG (coF c cc k m M) nI n i b mo))) (SV M)) := by
  intro n
  induction n with
  | zero =>
    intro i b mo hi
    refine V.iload dX9_corner_50 rfl rfl ?_
    refine V.iconst (v := 4) dX9_corner_52 rfl rfl ?_
    refine V.icmp_ge (tgt := 101) dX9_corner_53 rfl rfl (fun c53 => ?_) (fun c53 => absurd ((nI_leI (a := 4) (b := i) (by omega) (by omega)).mpr (by omega)) c53)
    have c53 : 4 ≤ i := (nI_leI (a := 4) (b := i) (by omega) (by omega)).mp c53
    refine V.iload_n dX9_corner_101 rfl rfl rfl ?_
    exact V.ret dX9_corner_102 rfl rfl ⟨rfl, rfl⟩
  | succ n ih =>
    intro i b mo hi
    refine V.iload dX9_corner_50 rfl rfl ?_
    refine V.iconst (v := 4) dX9_corner_52 rfl rfl ?_
    refine V.icmp_ge (tgt := 101) dX9_corner_53 rfl rfl (fun c53 => absurd ((nI_leI (a := 4) (b := i) (by omega) (by omega)).mp c53) (by omega)) (fun c53 => ?_)
    have c53 : ¬ 4 ≤ i := fun zq => c53 ((nI_leI (a := 4) (b := i) (by omega) (by omega)).mpr zq)
    refine V.aload_n dX9_corner_56 rfl rfl rfl ?_
    refine V.iload dX9_corner_57 rfl rfl ?_
    refine V.callv_v (M1 := mWalkM (nI i) (SV M)) (md' := m_X9_walks) (As := [.int (nI i)]) (rest := []) dX9_corner_59 ml_X9_131 mo_X9_walks ⟨Nat.le_of_ble_eq_true rfl, Nat.le_of_ble_eq_true rfl⟩ rfl ⟨_, _, rfl⟩ (Nat.le_of_ble_eq_true rfl) rfl rfl (Nat.le_of_ble_eq_true rfl) (v_X9_walks (nI i) _) rfl ?_
    refine V.aload_n dX9_corner_62 rfl rfl rfl ?_
    refine V.iload_n dX9_corner_63 rfl rfl rfl ?_
    refine V.callv_i (M1 := SV M) (v := coF c cc k m M i) (md' := m_X9_coinIn) (As := [.int (nI k)]) (rest := []) dX9_corner_64 ml_X9_205 mo_X9_coinIn ⟨Nat.le_of_ble_eq_true rfl, Nat.le_of_ble_eq_true rfl⟩ rfl ⟨_, _, rfl⟩ (Nat.le_of_ble_eq_true rfl) rfl rfl (Nat.le_of_ble_eq_true rfl) (v_X9_coinIn hc hcc (n := k) (m := m) (by omega) (by omega) M _ (off_walk (off_self M)) (hW i (by omega))) rfl ?_
    refine V.ist dX9_corner_67 (by decide) (L' := [(0, .ref 62), (1, .int (nI k)), (2, .int b), (3, .int mo), (4, .int (nI i)), (5, .int (coF c cc k m M i))]) rfl rfl ?_
    refine V.iload dX9_corner_69 rfl rfl ?_
    refine V.iload_n dX9_corner_71 rfl rfl rfl ?_
    refine V.icmp_le (tgt := 80) dX9_corner_72 rfl rfl (fun c72 => ?_) (fun c72 => ?_)
    · skip
      refine V.iload_n dX9_corner_80 rfl rfl rfl ?_
      refine V.ist_n dX9_corner_81 rfl (by decide) (L' := [(0, .ref 62), (1, .int (nI k)), (2, .int b), (3, .int mo), (4, .int (nI i)), (5, .int (coF c cc k m M i))]) rfl rfl ?_
      refine V.iload dX9_corner_82 rfl rfl ?_
      refine V.iload_n dX9_corner_84 rfl rfl rfl ?_
      refine V.icmp_le (tgt := 93) dX9_corner_85 rfl rfl (fun c85 => ?_) (fun c85 => absurd c85 (fun q => q c72))
      refine V.iload_n dX9_corner_93 rfl rfl rfl ?_
      refine V.ist_n dX9_corner_94 rfl (by decide) (L' := [(0, .ref 62), (1, .int (nI k)), (2, .int b), (3, .int mo), (4, .int (nI i)), (5, .int (coF c cc k m M i))]) rfl rfl ?_
      refine V.inc (v := nI (i + 1)) dX9_corner_95 rfl (nI_1 _) (by decide) (L' := [(0, .ref 62), (1, .int (nI k)), (2, .int b), (3, .int mo), (4, .int (nI (i + 1))), (5, .int (coF c cc k m M i))]) rfl rfl ?_
      refine V.goto (pc' := 50) dX9_corner_98 rfl ?_
      refine V.loc (L' := [(0, .ref 62), (1, .int (nI k)), (2, .int b), (3, .int mo), (4, .int (nI (i + 1)))]) (fun zq zh => List.mem_append_left [(5, Value.int (coF c cc k m M i))] zh) ?_
      rw [show bestG (coF c cc k m M) nI (n + 1) i b mo = bestG (coF c cc k m M) nI n (i + 1) b mo from by simp only [bestG]; rw [if_neg (Int32.not_lt.mpr c72), if_neg (Int32.not_lt.mpr c72)]]
      exact ih (i + 1) _ _ (by omega)
    · skip
      refine V.iload dX9_corner_75 rfl rfl ?_
      refine V.goto (pc' := 81) dX9_corner_77 rfl ?_
      refine V.ist_n dX9_corner_81 rfl (by decide) (L' := [(0, .ref 62), (1, .int (nI k)), (2, .int (nI i)), (3, .int mo), (4, .int (nI i)), (5, .int (coF c cc k m M i))]) rfl rfl ?_
      refine V.iload dX9_corner_82 rfl rfl ?_
      refine V.iload_n dX9_corner_84 rfl rfl rfl ?_
      refine V.icmp_le (tgt := 93) dX9_corner_85 rfl rfl (fun c85 => absurd c85 c72) (fun c85 => ?_)
      refine V.iload dX9_corner_88 rfl rfl ?_
      refine V.goto (pc' := 94) dX9_corner_90 rfl ?_
      refine V.ist_n dX9_corner_94 rfl (by decide) (L' := [(0, .ref 62), (1, .int (nI k)), (2, .int (nI i)), (3, .int (coF c cc k m M i)), (4, .int (nI i)), (5, .int (coF c cc k m M i))]) rfl rfl ?_
      refine V.inc (v := nI (i + 1)) dX9_corner_95 rfl (nI_1 _) (by decide) (L' := [(0, .ref 62), (1, .int (nI k)), (2, .int (nI i)), (3, .int (coF c cc k m M i)), (4, .int (nI (i + 1))), (5, .int (coF c cc k m M i))]) rfl rfl ?_
      refine V.goto (pc' := 50) dX9_corner_98 rfl ?_
      refine V.loc (L' := [(0, .ref 62), (1, .int (nI k)), (2, .int (nI i)), (3, .int (coF c cc k m M i)), (4, .int (nI (i + 1)))]) (fun zq zh => List.mem_append_left [(5, Value.int (coF c cc k m M i))] zh) ?_
      rw [show bestG (coF c cc k m M) nI (n + 1) i b mo = bestG (coF c cc k m M) nI n (i + 1) (nI i) (coF c cc k m M i) from by simp only [bestG]; rw [if_pos (Int32.not_le.mp c72), if_pos (Int32.not_le.mp c72)]]
      exact ih (i + 1) _ _ (by omega)
theorem l_X9_kindFor {c : Nat} (hc : c ≤ 10) {cc : Nat} (hcc : cc ≤ 12) {k m : Nat} (hk : k ≤ 120) (hm : m ≤ 3000) (M : Mem) {x : Nat} (hx : x < c) (hW : ∀ p, p < 7 → WM c cc m (ms (SV M) 63 (20 + 5 * x) (nI p))) : ∀ (n i : Nat) (b mo : Int32), i + n = 7 → V m_X9_kindFor 49 [(0, .ref 62), (1, .int (nI x)), (2, .int (nI k)), (3, .int b), (4, .int mo), (5, .int (nI i))] [] (SV M) (RT (some (.int (bestG (kdF c cc k m x M) nI n i b mo))) (SV M)) := by
  intro n
  induction n with
  | zero =>
    intro i b mo hi
    refine V.iload dX9_kindFor_49 rfl rfl ?_
    refine V.bipush (v := 7) dX9_kindFor_51 (by decide) rfl ?_
    refine V.icmp_ge (tgt := 111) dX9_kindFor_53 rfl rfl (fun c53 => ?_) (fun c53 => absurd ((nI_leI (a := 7) (b := i) (by omega) (by omega)).mpr (by omega)) c53)
    have c53 : 7 ≤ i := (nI_leI (a := 7) (b := i) (by omega) (by omega)).mp c53
    refine V.iload_n dX9_kindFor_111 rfl rfl rfl ?_
    exact V.ret dX9_kindFor_112 rfl rfl ⟨rfl, rfl⟩
  | succ n ih =>
    intro i b mo hi
    refine V.iload dX9_kindFor_49 rfl rfl ?_
    refine V.bipush (v := 7) dX9_kindFor_51 (by decide) rfl ?_
    refine V.icmp_ge (tgt := 111) dX9_kindFor_53 rfl rfl (fun c53 => absurd ((nI_leI (a := 7) (b := i) (by omega) (by omega)).mp c53) (by omega)) (fun c53 => ?_)
    have c53 : ¬ 7 ≤ i := fun zq => c53 ((nI_leI (a := 7) (b := i) (by omega) (by omega)).mpr zq)
    refine V.aload_n dX9_kindFor_56 rfl rfl rfl ?_
    refine V.getr dX9_kindFor_57 fg_X9_7 rfl rfl rfl ?_
    refine V.iload_n dX9_kindFor_60 rfl rfl rfl ?_
    refine V.iconst (v := 0) dX9_kindFor_61 rfl rfl ?_
    refine V.calls_i (M1 := SV M) (v := nI (20 + 5 * x)) (md' := m_X9_where) (As := [.int (nI x), .int 0]) (rest := [.ref 63]) dX9_kindFor_62 ml_X9_45 mo_X9_where ⟨Nat.le_of_ble_eq_true rfl, Nat.le_of_ble_eq_true rfl⟩ (Nat.le_of_ble_eq_true rfl) rfl rfl (Nat.le_of_ble_eq_true rfl) (v_X9_where x 0 _) rfl ?_
    refine V.iload dX9_kindFor_65 rfl rfl ?_
    refine V.iastN (j := 20 + 5 * x) dX9_kindFor_67 rfl (by omega) (by decide) rfl (M' := (ms (SV M) 63 (20 + 5 * x) (nI i))) rfl rfl ?_
    refine V.aload_n dX9_kindFor_68 rfl rfl rfl ?_
    refine V.iload_n dX9_kindFor_69 rfl rfl rfl ?_
    refine V.callv_i (M1 := SV M) (v := kdF c cc k m x M i) (md' := m_X9_coinIn) (As := [.int (nI k)]) (rest := []) dX9_kindFor_70 ml_X9_205 mo_X9_coinIn ⟨Nat.le_of_ble_eq_true rfl, Nat.le_of_ble_eq_true rfl⟩ rfl ⟨_, _, rfl⟩ (Nat.le_of_ble_eq_true rfl) rfl rfl (Nat.le_of_ble_eq_true rfl) (v_X9_coinIn hc hcc (n := k) (m := m) (by omega) (by omega) M _ (off_ms (by omega) (off_self M)) (hW i (by omega))) rfl ?_
    refine V.ist dX9_kindFor_73 (by decide) (L' := [(0, .ref 62), (1, .int (nI x)), (2, .int (nI k)), (3, .int b), (4, .int mo), (5, .int (nI i)), (6, .int (kdF c cc k m x M i))]) rfl rfl ?_
    refine V.iload dX9_kindFor_75 rfl rfl ?_
    refine V.iload dX9_kindFor_77 rfl rfl ?_
    refine V.icmp_le (tgt := 87) dX9_kindFor_79 rfl rfl (fun c79 => ?_) (fun c79 => ?_)
    · skip
      refine V.iload_n dX9_kindFor_87 rfl rfl rfl ?_
      refine V.ist_n dX9_kindFor_88 rfl (by decide) (L' := [(0, .ref 62), (1, .int (nI x)), (2, .int (nI k)), (3, .int b), (4, .int mo), (5, .int (nI i)), (6, .int (kdF c cc k m x M i))]) rfl rfl ?_
      refine V.iload dX9_kindFor_89 rfl rfl ?_
      refine V.iload dX9_kindFor_91 rfl rfl ?_
      refine V.icmp_le (tgt := 101) dX9_kindFor_93 rfl rfl (fun c93 => ?_) (fun c93 => absurd c93 (fun q => q c79))
      refine V.iload dX9_kindFor_101 rfl rfl ?_
      refine V.ist dX9_kindFor_103 (by decide) (L' := [(0, .ref 62), (1, .int (nI x)), (2, .int (nI k)), (3, .int b), (4, .int mo), (5, .int (nI i)), (6, .int (kdF c cc k m x M i))]) rfl rfl ?_
      refine V.inc (v := nI (i + 1)) dX9_kindFor_105 rfl (nI_1 _) (by decide) (L' := [(0, .ref 62), (1, .int (nI x)), (2, .int (nI k)), (3, .int b), (4, .int mo), (5, .int (nI (i + 1))), (6, .int (kdF c cc k m x M i))]) rfl rfl ?_
      refine V.goto (pc' := 49) dX9_kindFor_108 rfl ?_
      refine V.loc (L' := [(0, .ref 62), (1, .int (nI x)), (2, .int (nI k)), (3, .int b), (4, .int mo), (5, .int (nI (i + 1)))]) (fun zq zh => List.mem_append_left [(6, Value.int (kdF c cc k m x M i))] zh) ?_
      rw [show bestG (kdF c cc k m x M) nI (n + 1) i b mo = bestG (kdF c cc k m x M) nI n (i + 1) b mo from by simp only [bestG]; rw [if_neg (Int32.not_lt.mpr c79), if_neg (Int32.not_lt.mpr c79)]]
      exact ih (i + 1) _ _ (by omega)
    · skip
      refine V.iload dX9_kindFor_82 rfl rfl ?_
      refine V.goto (pc' := 88) dX9_kindFor_84 rfl ?_
      refine V.ist_n dX9_kindFor_88 rfl (by decide) (L' := [(0, .ref 62), (1, .int (nI x)), (2, .int (nI k)), (3, .int (nI i)), (4, .int mo), (5, .int (nI i)), (6, .int (kdF c cc k m x M i))]) rfl rfl ?_
      refine V.iload dX9_kindFor_89 rfl rfl ?_
      refine V.iload dX9_kindFor_91 rfl rfl ?_
      refine V.icmp_le (tgt := 101) dX9_kindFor_93 rfl rfl (fun c93 => absurd c93 c79) (fun c93 => ?_)
      refine V.iload dX9_kindFor_96 rfl rfl ?_
      refine V.goto (pc' := 103) dX9_kindFor_98 rfl ?_
      refine V.ist dX9_kindFor_103 (by decide) (L' := [(0, .ref 62), (1, .int (nI x)), (2, .int (nI k)), (3, .int (nI i)), (4, .int (kdF c cc k m x M i)), (5, .int (nI i)), (6, .int (kdF c cc k m x M i))]) rfl rfl ?_
      refine V.inc (v := nI (i + 1)) dX9_kindFor_105 rfl (nI_1 _) (by decide) (L' := [(0, .ref 62), (1, .int (nI x)), (2, .int (nI k)), (3, .int (nI i)), (4, .int (kdF c cc k m x M i)), (5, .int (nI (i + 1))), (6, .int (kdF c cc k m x M i))]) rfl rfl ?_
      refine V.goto (pc' := 49) dX9_kindFor_108 rfl ?_
      refine V.loc (L' := [(0, .ref 62), (1, .int (nI x)), (2, .int (nI k)), (3, .int (nI i)), (4, .int (kdF c cc k m x M i)), (5, .int (nI (i + 1)))]) (fun zq zh => List.mem_append_left [(6, Value.int (kdF c cc k m x M i))] zh) ?_
      rw [show bestG (kdF c cc k m x M) nI (n + 1) i b mo = bestG (kdF c cc k m x M) nI n (i + 1) (nI i) (kdF c cc k m x M i) from by simp only [bestG]; rw [if_pos (Int32.not_le.mp c79), if_pos (Int32.not_le.mp c79)]]
      exact ih (i + 1) _ _ (by omega)
def pPrice (c cc m : Nat) (n : Int32) (M : Mem) : Int32 × Mem := if ¬ rng 1 120 n then (-1000001, fdM 0 M) else if 999 < m + n.toNatClampNeg then (-1000005, fdM 4 M) else (bestG (prF c cc n.toNatClampNeg m M) nI 100 0 0 (-1), SV M)
theorem v_X9_price {c : Nat} (hc : c ≤ 10) {cc : Nat} (hcc : cc ≤ 12) {m : Nat} (hm : m ≤ 3000) (n : Int32) (M : Mem) (hM : M 63 1 = nI c) (h2 : M 63 2 = nI cc) (h0 : M 63 0 = nI m) (hW : ∀ p, p < 100 → WM c cc m (ms (SV M) 63 5 (nI p))) : V m_X9_price 0 [(0, .ref 62), (1, .int n)] [] M (RT (some (.int ((pPrice c cc m n M).1))) ((pPrice c cc m n M).2)) := by
  refine V.iload_n dX9_price_0 rfl rfl rfl ?_
  refine V.calls_i (M1 := M) (v := if rng 1 120 n then 1 else 0) (md' := m_X9_isSpan) (As := [.int n]) (rest := []) dX9_price_1 ml_X9_199 mo_X9_isSpan ⟨Nat.le_of_ble_eq_true rfl, Nat.le_of_ble_eq_true rfl⟩ (Nat.le_of_ble_eq_true rfl) rfl rfl (Nat.le_of_ble_eq_true rfl) (v_X9_isSpan n _) rfl ?_
  refine V.ifb_ne (tgt := 14) dX9_price_4 rfl rfl (fun c4 => ?_) (fun c4 => ?_)
  · skip
    obtain ⟨k, hk, rfl⟩ := of_rng1 (b := 120) c4
    · have ek : (nI k).toNatClampNeg = k := nI_clamp (by omega)
      refine V.aload_n dX9_price_14 rfl rfl rfl ?_
      refine V.iload_n dX9_price_15 rfl rfl rfl ?_
      refine V.callv_i (M1 := M) (v := if 999 < m + k then 1 else 0) (md' := m_X9_isTooLate) (As := [.int (nI k)]) (rest := []) dX9_price_16 ml_X9_171 mo_X9_isTooLate ⟨Nat.le_of_ble_eq_true rfl, Nat.le_of_ble_eq_true rfl⟩ rfl ⟨_, _, rfl⟩ (Nat.le_of_ble_eq_true rfl) rfl rfl (Nat.le_of_ble_eq_true rfl) (v_X9_isTooLate (by omega) (by omega) M h0) rfl ?_
      refine V.ifb_eq (tgt := 29) dX9_price_19 rfl rfl (fun c19 => ?_) (fun c19 => ?_)
      · skip
        refine V.aload_n dX9_price_29 rfl rfl rfl ?_
        refine V.callv_v (M1 := SV M) (md' := m_X9_saves) (As := []) (rest := []) dX9_price_30 ml_X9_179 mo_X9_saves ⟨Nat.le_of_ble_eq_true rfl, Nat.le_of_ble_eq_true rfl⟩ rfl ⟨_, _, rfl⟩ (Nat.le_of_ble_eq_true rfl) rfl rfl (Nat.le_of_ble_eq_true rfl) (v_X9_saves M) rfl ?_
        refine V.iconst (v := 0) dX9_price_33 rfl rfl ?_
        refine V.ist_n dX9_price_34 rfl (by decide) (L' := [(0, .ref 62), (1, .int (nI k)), (2, .int 0)]) rfl rfl ?_
        refine V.iconst (v := -1) dX9_price_35 rfl rfl ?_
        refine V.ist_n dX9_price_36 rfl (by decide) (L' := [(0, .ref 62), (1, .int (nI k)), (2, .int 0), (3, .int (-1))]) rfl rfl ?_
        refine V.iconst (v := 0) dX9_price_37 rfl rfl ?_
        refine V.ist dX9_price_38 (by decide) (L' := [(0, .ref 62), (1, .int (nI k)), (2, .int 0), (3, .int (-1)), (4, .int 0)]) rfl rfl ?_
        rw [show pPrice c cc m (nI k) M = (bestG (prF c cc k m M) nI 100 0 0 (-1), SV M) from by simp (decide := true) [pPrice, c4, ek, c19]]
        exact l_X9_price hc hcc (by omega) hm M hW 100 0 0 (-1) (by omega)
      · skip
        refine V.aload_n dX9_price_22 rfl rfl rfl ?_
        refine V.ldc (v := -1000005) dX9_price_23 cn_X9_98 rfl ?_
        refine V.callv_i (M1 := fdM 4 M) (v := -1000005) (md' := m_X9_finds) (As := [.int (-1000005)]) (rest := []) dX9_price_25 ml_X9_51 mo_X9_finds ⟨Nat.le_of_ble_eq_true rfl, Nat.le_of_ble_eq_true rfl⟩ rfl ⟨_, _, rfl⟩ (Nat.le_of_ble_eq_true rfl) rfl rfl (Nat.le_of_ble_eq_true rfl) (v_X9_finds (w := 4) (by decide) (-1000005) (by decide +kernel) _) rfl ?_
        exact V.ret dX9_price_28 rfl rfl ⟨(by first | (simp (decide := true) [pPrice, c4, ek, c19]; done) | (simp (decide := true) [pPrice, c4, ek, c19]; done) | (simp (decide := true) [pPrice, c4, ek, c19]; done) | (simp_all (decide := true) [pPrice]; done) | (simp_all (decide := true) [pPrice, ltF, leF]; done)), (by first | (simp (decide := true) [pPrice, c4, ek, c19]; done) | (simp (decide := true) [pPrice, c4, ek, c19]; done) | (simp (decide := true) [pPrice, c4, ek, c19]; done) | (simp_all (decide := true) [pPrice]; done) | (simp_all (decide := true) [pPrice, ltF, leF]; done))⟩
  · skip
    refine V.aload_n dX9_price_7 rfl rfl rfl ?_
    refine V.ldc (v := -1000001) dX9_price_8 cn_X9_37 rfl ?_
    refine V.callv_i (M1 := fdM 0 M) (v := -1000001) (md' := m_X9_finds) (As := [.int (-1000001)]) (rest := []) dX9_price_10 ml_X9_51 mo_X9_finds ⟨Nat.le_of_ble_eq_true rfl, Nat.le_of_ble_eq_true rfl⟩ rfl ⟨_, _, rfl⟩ (Nat.le_of_ble_eq_true rfl) rfl rfl (Nat.le_of_ble_eq_true rfl) (v_X9_finds (w := 0) (by decide) (-1000001) (by decide +kernel) _) rfl ?_
    exact V.ret dX9_price_13 rfl rfl ⟨(by first | (simp (decide := true) [pPrice, c4]; done) | (simp (decide := true) [pPrice, c4]; done) | (simp (decide := true) [pPrice, c4]; done) | (simp_all (decide := true) [pPrice]; done) | (simp_all (decide := true) [pPrice, ltF, leF]; done)), (by first | (simp (decide := true) [pPrice, c4]; done) | (simp (decide := true) [pPrice, c4]; done) | (simp (decide := true) [pPrice, c4]; done) | (simp_all (decide := true) [pPrice]; done) | (simp_all (decide := true) [pPrice, ltF, leF]; done))⟩
def pShovels (c cc m : Nat) (n : Int32) (M : Mem) : Int32 × Mem := if ¬ rng 1 120 n then (-1000001, fdM 0 M) else if 999 < m + n.toNatClampNeg then (-1000005, fdM 4 M) else (bestG (shF c cc n.toNatClampNeg m M) nI 10 0 0 (-1), SV M)
theorem v_X9_shovels {c : Nat} (hc : c ≤ 10) {cc : Nat} (hcc : cc ≤ 12) {m : Nat} (hm : m ≤ 3000) (n : Int32) (M : Mem) (hM : M 63 1 = nI c) (h2 : M 63 2 = nI cc) (h0 : M 63 0 = nI m) (hW : ∀ p, p < 10 → WM c cc m (ms (SV M) 63 19 (M 63 19 + nI p))) : V m_X9_shovels 0 [(0, .ref 62), (1, .int n)] [] M (RT (some (.int ((pShovels c cc m n M).1))) ((pShovels c cc m n M).2)) := by
  refine V.iload_n dX9_shovels_0 rfl rfl rfl ?_
  refine V.calls_i (M1 := M) (v := if rng 1 120 n then 1 else 0) (md' := m_X9_isSpan) (As := [.int n]) (rest := []) dX9_shovels_1 ml_X9_199 mo_X9_isSpan ⟨Nat.le_of_ble_eq_true rfl, Nat.le_of_ble_eq_true rfl⟩ (Nat.le_of_ble_eq_true rfl) rfl rfl (Nat.le_of_ble_eq_true rfl) (v_X9_isSpan n _) rfl ?_
  refine V.ifb_ne (tgt := 14) dX9_shovels_4 rfl rfl (fun c4 => ?_) (fun c4 => ?_)
  · skip
    obtain ⟨k, hk, rfl⟩ := of_rng1 (b := 120) c4
    · have ek : (nI k).toNatClampNeg = k := nI_clamp (by omega)
      refine V.aload_n dX9_shovels_14 rfl rfl rfl ?_
      refine V.iload_n dX9_shovels_15 rfl rfl rfl ?_
      refine V.callv_i (M1 := M) (v := if 999 < m + k then 1 else 0) (md' := m_X9_isTooLate) (As := [.int (nI k)]) (rest := []) dX9_shovels_16 ml_X9_171 mo_X9_isTooLate ⟨Nat.le_of_ble_eq_true rfl, Nat.le_of_ble_eq_true rfl⟩ rfl ⟨_, _, rfl⟩ (Nat.le_of_ble_eq_true rfl) rfl rfl (Nat.le_of_ble_eq_true rfl) (v_X9_isTooLate (by omega) (by omega) M h0) rfl ?_
      refine V.ifb_eq (tgt := 29) dX9_shovels_19 rfl rfl (fun c19 => ?_) (fun c19 => ?_)
      · skip
        refine V.aload_n dX9_shovels_29 rfl rfl rfl ?_
        refine V.callv_v (M1 := SV M) (md' := m_X9_saves) (As := []) (rest := []) dX9_shovels_30 ml_X9_179 mo_X9_saves ⟨Nat.le_of_ble_eq_true rfl, Nat.le_of_ble_eq_true rfl⟩ rfl ⟨_, _, rfl⟩ (Nat.le_of_ble_eq_true rfl) rfl rfl (Nat.le_of_ble_eq_true rfl) (v_X9_saves M) rfl ?_
        refine V.iconst (v := 0) dX9_shovels_33 rfl rfl ?_
        refine V.ist_n dX9_shovels_34 rfl (by decide) (L' := [(0, .ref 62), (1, .int (nI k)), (2, .int 0)]) rfl rfl ?_
        refine V.iconst (v := -1) dX9_shovels_35 rfl rfl ?_
        refine V.ist_n dX9_shovels_36 rfl (by decide) (L' := [(0, .ref 62), (1, .int (nI k)), (2, .int 0), (3, .int (-1))]) rfl rfl ?_
        refine V.iconst (v := 0) dX9_shovels_37 rfl rfl ?_
        refine V.ist dX9_shovels_38 (by decide) (L' := [(0, .ref 62), (1, .int (nI k)), (2, .int 0), (3, .int (-1)), (4, .int 0)]) rfl rfl ?_
        rw [show pShovels c cc m (nI k) M = (bestG (shF c cc k m M) nI 10 0 0 (-1), SV M) from by simp (decide := true) [pShovels, c4, ek, c19]]
        exact l_X9_shovels hc hcc (by omega) hm M hW 10 0 0 (-1) (by omega)
      · skip
        refine V.aload_n dX9_shovels_22 rfl rfl rfl ?_
        refine V.ldc (v := -1000005) dX9_shovels_23 cn_X9_98 rfl ?_
        refine V.callv_i (M1 := fdM 4 M) (v := -1000005) (md' := m_X9_finds) (As := [.int (-1000005)]) (rest := []) dX9_shovels_25 ml_X9_51 mo_X9_finds ⟨Nat.le_of_ble_eq_true rfl, Nat.le_of_ble_eq_true rfl⟩ rfl ⟨_, _, rfl⟩ (Nat.le_of_ble_eq_true rfl) rfl rfl (Nat.le_of_ble_eq_true rfl) (v_X9_finds (w := 4) (by decide) (-1000005) (by decide +kernel) _) rfl ?_
        exact V.ret dX9_shovels_28 rfl rfl ⟨(by first | (simp (decide := true) [pShovels, c4, ek, c19]; done) | (simp (decide := true) [pShovels, c4, ek, c19]; done) | (simp (decide := true) [pShovels, c4, ek, c19]; done) | (simp_all (decide := true) [pShovels]; done) | (simp_all (decide := true) [pShovels, ltF, leF]; done)), (by first | (simp (decide := true) [pShovels, c4, ek, c19]; done) | (simp (decide := true) [pShovels, c4, ek, c19]; done) | (simp (decide := true) [pShovels, c4, ek, c19]; done) | (simp_all (decide := true) [pShovels]; done) | (simp_all (decide := true) [pShovels, ltF, leF]; done))⟩
  · skip
    refine V.aload_n dX9_shovels_7 rfl rfl rfl ?_
    refine V.ldc (v := -1000001) dX9_shovels_8 cn_X9_37 rfl ?_
    refine V.callv_i (M1 := fdM 0 M) (v := -1000001) (md' := m_X9_finds) (As := [.int (-1000001)]) (rest := []) dX9_shovels_10 ml_X9_51 mo_X9_finds ⟨Nat.le_of_ble_eq_true rfl, Nat.le_of_ble_eq_true rfl⟩ rfl ⟨_, _, rfl⟩ (Nat.le_of_ble_eq_true rfl) rfl rfl (Nat.le_of_ble_eq_true rfl) (v_X9_finds (w := 0) (by decide) (-1000001) (by decide +kernel) _) rfl ?_
    exact V.ret dX9_shovels_13 rfl rfl ⟨(by first | (simp (decide := true) [pShovels, c4]; done) | (simp (decide := true) [pShovels, c4]; done) | (simp (decide := true) [pShovels, c4]; done) | (simp_all (decide := true) [pShovels]; done) | (simp_all (decide := true) [pShovels, ltF, leF]; done)), (by first | (simp (decide := true) [pShovels, c4]; done) | (simp (decide := true) [pShovels, c4]; done) | (simp (decide := true) [pShovels, c4]; done) | (simp_all (decide := true) [pShovels]; done) | (simp_all (decide := true) [pShovels, ltF, leF]; done))⟩
def pCorner (c cc m : Nat) (n : Int32) (M : Mem) : Int32 × Mem := if ¬ rng 1 120 n then (-1000001, fdM 0 M) else if 0 < M 63 9 ∨ 999 < m + n.toNatClampNeg then (-1000005, fdM 4 M) else (bestG (coF c cc n.toNatClampNeg m M) nI 4 0 0 (-1), SV M)
theorem v_X9_corner {c : Nat} (hc : c ≤ 10) {cc : Nat} (hcc : cc ≤ 12) {m : Nat} (hm : m ≤ 3000) (n : Int32) (M : Mem) (hM : M 63 1 = nI c) (h2 : M 63 2 = nI cc) (h0 : M 63 0 = nI m) (hW : ∀ p, p < 4 → WM c cc m (mWalkM (nI p) (SV M))) : V m_X9_corner 0 [(0, .ref 62), (1, .int n)] [] M (RT (some (.int ((pCorner c cc m n M).1))) ((pCorner c cc m n M).2)) := by
  refine V.iload_n dX9_corner_0 rfl rfl rfl ?_
  refine V.calls_i (M1 := M) (v := if rng 1 120 n then 1 else 0) (md' := m_X9_isSpan) (As := [.int n]) (rest := []) dX9_corner_1 ml_X9_199 mo_X9_isSpan ⟨Nat.le_of_ble_eq_true rfl, Nat.le_of_ble_eq_true rfl⟩ (Nat.le_of_ble_eq_true rfl) rfl rfl (Nat.le_of_ble_eq_true rfl) (v_X9_isSpan n _) rfl ?_
  refine V.ifb_ne (tgt := 14) dX9_corner_4 rfl rfl (fun c4 => ?_) (fun c4 => ?_)
  · skip
    obtain ⟨k, hk, rfl⟩ := of_rng1 (b := 120) c4
    · have ek : (nI k).toNatClampNeg = k := nI_clamp (by omega)
      refine V.aload_n dX9_corner_14 rfl rfl rfl ?_
      refine V.getr dX9_corner_15 fg_X9_7 rfl rfl rfl ?_
      refine V.bipush (v := 9) dX9_corner_18 (by decide) rfl ?_
      refine V.ialdN (j := 9) (v := M 63 9) dX9_corner_20 rfl (by decide) (by decide) rfl rfl rfl ?_
      refine V.if_gt (tgt := 32) dX9_corner_21 rfl rfl (fun c21 => ?_) (fun c21 => ?_)
      · have d21 := Int32.not_le.mpr c21
        refine V.aload_n dX9_corner_32 rfl rfl rfl ?_
        refine V.ldc (v := -1000005) dX9_corner_33 cn_X9_98 rfl ?_
        refine V.callv_i (M1 := fdM 4 M) (v := -1000005) (md' := m_X9_finds) (As := [.int (-1000005)]) (rest := []) dX9_corner_35 ml_X9_51 mo_X9_finds ⟨Nat.le_of_ble_eq_true rfl, Nat.le_of_ble_eq_true rfl⟩ rfl ⟨_, _, rfl⟩ (Nat.le_of_ble_eq_true rfl) rfl rfl (Nat.le_of_ble_eq_true rfl) (v_X9_finds (w := 4) (by decide) (-1000005) (by decide +kernel) _) rfl ?_
        exact V.ret dX9_corner_38 rfl rfl ⟨(by first | (simp (decide := true) [pCorner, c4, ek, c21, d21]; done) | (simp (decide := true) [pCorner, c4, ek, c21, c21]; done) | (simp (decide := true) [pCorner, c4, ek, c21, d21, c21]; done) | (simp_all (decide := true) [pCorner]; done) | (simp_all (decide := true) [pCorner, ltF, leF]; done)), (by first | (simp (decide := true) [pCorner, c4, ek, c21, d21]; done) | (simp (decide := true) [pCorner, c4, ek, c21, c21]; done) | (simp (decide := true) [pCorner, c4, ek, c21, d21, c21]; done) | (simp_all (decide := true) [pCorner]; done) | (simp_all (decide := true) [pCorner, ltF, leF]; done))⟩
      · have d21 := Int32.not_lt.mp c21
        refine V.aload_n dX9_corner_24 rfl rfl rfl ?_
        refine V.iload_n dX9_corner_25 rfl rfl rfl ?_
        refine V.callv_i (M1 := M) (v := if 999 < m + k then 1 else 0) (md' := m_X9_isTooLate) (As := [.int (nI k)]) (rest := []) dX9_corner_26 ml_X9_171 mo_X9_isTooLate ⟨Nat.le_of_ble_eq_true rfl, Nat.le_of_ble_eq_true rfl⟩ rfl ⟨_, _, rfl⟩ (Nat.le_of_ble_eq_true rfl) rfl rfl (Nat.le_of_ble_eq_true rfl) (v_X9_isTooLate (by omega) (by omega) M h0) rfl ?_
        refine V.ifb_eq (tgt := 39) dX9_corner_29 rfl rfl (fun c29 => ?_) (fun c29 => ?_)
        · skip
          refine V.aload_n dX9_corner_39 rfl rfl rfl ?_
          refine V.callv_v (M1 := SV M) (md' := m_X9_saves) (As := []) (rest := []) dX9_corner_40 ml_X9_179 mo_X9_saves ⟨Nat.le_of_ble_eq_true rfl, Nat.le_of_ble_eq_true rfl⟩ rfl ⟨_, _, rfl⟩ (Nat.le_of_ble_eq_true rfl) rfl rfl (Nat.le_of_ble_eq_true rfl) (v_X9_saves M) rfl ?_
          refine V.iconst (v := 0) dX9_corner_43 rfl rfl ?_
          refine V.ist_n dX9_corner_44 rfl (by decide) (L' := [(0, .ref 62), (1, .int (nI k)), (2, .int 0)]) rfl rfl ?_
          refine V.iconst (v := -1) dX9_corner_45 rfl rfl ?_
          refine V.ist_n dX9_corner_46 rfl (by decide) (L' := [(0, .ref 62), (1, .int (nI k)), (2, .int 0), (3, .int (-1))]) rfl rfl ?_
          refine V.iconst (v := 0) dX9_corner_47 rfl rfl ?_
          refine V.ist dX9_corner_48 (by decide) (L' := [(0, .ref 62), (1, .int (nI k)), (2, .int 0), (3, .int (-1)), (4, .int 0)]) rfl rfl ?_
          rw [show pCorner c cc m (nI k) M = (bestG (coF c cc k m M) nI 4 0 0 (-1), SV M) from by simp (decide := true) [pCorner, c4, ek, c21, d21, c29]]
          exact l_X9_corner hc hcc (by omega) hm M hW 4 0 0 (-1) (by omega)
        · skip
          refine V.aload_n dX9_corner_32 rfl rfl rfl ?_
          refine V.ldc (v := -1000005) dX9_corner_33 cn_X9_98 rfl ?_
          refine V.callv_i (M1 := fdM 4 M) (v := -1000005) (md' := m_X9_finds) (As := [.int (-1000005)]) (rest := []) dX9_corner_35 ml_X9_51 mo_X9_finds ⟨Nat.le_of_ble_eq_true rfl, Nat.le_of_ble_eq_true rfl⟩ rfl ⟨_, _, rfl⟩ (Nat.le_of_ble_eq_true rfl) rfl rfl (Nat.le_of_ble_eq_true rfl) (v_X9_finds (w := 4) (by decide) (-1000005) (by decide +kernel) _) rfl ?_
          exact V.ret dX9_corner_38 rfl rfl ⟨(by first | (simp (decide := true) [pCorner, c4, ek, c21, d21, c29]; done) | (simp (decide := true) [pCorner, c4, ek, c21, c21, c29]; done) | (simp (decide := true) [pCorner, c4, ek, c21, d21, c29, c21]; done) | (simp_all (decide := true) [pCorner]; done) | (simp_all (decide := true) [pCorner, ltF, leF]; done)), (by first | (simp (decide := true) [pCorner, c4, ek, c21, d21, c29]; done) | (simp (decide := true) [pCorner, c4, ek, c21, c21, c29]; done) | (simp (decide := true) [pCorner, c4, ek, c21, d21, c29, c21]; done) | (simp_all (decide := true) [pCorner]; done) | (simp_all (decide := true) [pCorner, ltF, leF]; done))⟩
  · skip
    refine V.aload_n dX9_corner_7 rfl rfl rfl ?_
    refine V.ldc (v := -1000001) dX9_corner_8 cn_X9_37 rfl ?_
    refine V.callv_i (M1 := fdM 0 M) (v := -1000001) (md' := m_X9_finds) (As := [.int (-1000001)]) (rest := []) dX9_corner_10 ml_X9_51 mo_X9_finds ⟨Nat.le_of_ble_eq_true rfl, Nat.le_of_ble_eq_true rfl⟩ rfl ⟨_, _, rfl⟩ (Nat.le_of_ble_eq_true rfl) rfl rfl (Nat.le_of_ble_eq_true rfl) (v_X9_finds (w := 0) (by decide) (-1000001) (by decide +kernel) _) rfl ?_
    exact V.ret dX9_corner_13 rfl rfl ⟨(by first | (simp (decide := true) [pCorner, c4]; done) | (simp (decide := true) [pCorner, c4]; done) | (simp (decide := true) [pCorner, c4]; done) | (simp_all (decide := true) [pCorner]; done) | (simp_all (decide := true) [pCorner, ltF, leF]; done)), (by first | (simp (decide := true) [pCorner, c4]; done) | (simp (decide := true) [pCorner, c4]; done) | (simp (decide := true) [pCorner, c4]; done) | (simp_all (decide := true) [pCorner]; done) | (simp_all (decide := true) [pCorner, ltF, leF]; done))⟩
def pKindFor (c cc m : Nat) (x n : Int32) (M : Mem) : Int32 × Mem := if ¬ (isB c x ∧ rng 1 120 n) then (-1000001, fdM 0 M) else if 999 < m + n.toNatClampNeg then (-1000005, fdM 4 M) else (bestG (kdF c cc n.toNatClampNeg m x.toNatClampNeg M) nI 7 0 0 (-1), SV M)
theorem v_X9_kindFor {c : Nat} (hc : c ≤ 10) {cc : Nat} (hcc : cc ≤ 12) {m : Nat} (hm : m ≤ 3000) (x n : Int32) (M : Mem) (hM : M 63 1 = nI c) (h2 : M 63 2 = nI cc) (h0 : M 63 0 = nI m) (hW : ∀ x, x < c → ∀ p, p < 7 → WM c cc m (ms (SV M) 63 (20 + 5 * x) (nI p))) : V m_X9_kindFor 0 [(0, .ref 62), (1, .int x), (2, .int n)] [] M (RT (some (.int ((pKindFor c cc m x n M).1))) ((pKindFor c cc m x n M).2)) := by
  refine V.aload_n dX9_kindFor_0 rfl rfl rfl ?_
  refine V.iload_n dX9_kindFor_1 rfl rfl rfl ?_
  refine V.callv_i (M1 := M) (v := if isB c x then 1 else 0) (md' := m_X9_isBatch) (As := [.int x]) (rest := []) dX9_kindFor_2 ml_X9_66 mo_X9_isBatch ⟨Nat.le_of_ble_eq_true rfl, Nat.le_of_ble_eq_true rfl⟩ rfl ⟨_, _, rfl⟩ (Nat.le_of_ble_eq_true rfl) rfl rfl (Nat.le_of_ble_eq_true rfl) (v_X9_isBatch hc x M hM) rfl ?_
  refine V.ifb_eq (tgt := 15) dX9_kindFor_5 rfl rfl (fun c5 => ?_) (fun c5 => ?_)
  · skip
    refine V.aload_n dX9_kindFor_15 rfl rfl rfl ?_
    refine V.ldc (v := -1000001) dX9_kindFor_16 cn_X9_37 rfl ?_
    refine V.callv_i (M1 := fdM 0 M) (v := -1000001) (md' := m_X9_finds) (As := [.int (-1000001)]) (rest := []) dX9_kindFor_18 ml_X9_51 mo_X9_finds ⟨Nat.le_of_ble_eq_true rfl, Nat.le_of_ble_eq_true rfl⟩ rfl ⟨_, _, rfl⟩ (Nat.le_of_ble_eq_true rfl) rfl rfl (Nat.le_of_ble_eq_true rfl) (v_X9_finds (w := 0) (by decide) (-1000001) (by decide +kernel) _) rfl ?_
    exact V.ret dX9_kindFor_21 rfl rfl ⟨(by first | (simp (decide := true) [pKindFor, c5]; done) | (simp (decide := true) [pKindFor, c5]; done) | (simp (decide := true) [pKindFor, c5]; done) | (simp_all (decide := true) [pKindFor]; done) | (simp_all (decide := true) [pKindFor, ltF, leF]; done)), (by first | (simp (decide := true) [pKindFor, c5]; done) | (simp (decide := true) [pKindFor, c5]; done) | (simp (decide := true) [pKindFor, c5]; done) | (simp_all (decide := true) [pKindFor]; done) | (simp_all (decide := true) [pKindFor, ltF, leF]; done))⟩
  · skip
    refine V.iload_n dX9_kindFor_8 rfl rfl rfl ?_
    refine V.calls_i (M1 := M) (v := if rng 1 120 n then 1 else 0) (md' := m_X9_isSpan) (As := [.int n]) (rest := []) dX9_kindFor_9 ml_X9_199 mo_X9_isSpan ⟨Nat.le_of_ble_eq_true rfl, Nat.le_of_ble_eq_true rfl⟩ (Nat.le_of_ble_eq_true rfl) rfl rfl (Nat.le_of_ble_eq_true rfl) (v_X9_isSpan n _) rfl ?_
    refine V.ifb_ne (tgt := 22) dX9_kindFor_12 rfl rfl (fun c12 => ?_) (fun c12 => ?_)
    · skip
      obtain ⟨b, hb, rfl⟩ := of_isB c5
      · have eb : (nI b).toNatClampNeg = b := nI_clamp (by omega)
        obtain ⟨k, hk, rfl⟩ := of_rng1 (b := 120) c12
        have ek : (nI k).toNatClampNeg = k := nI_clamp (by omega)
        refine V.aload_n dX9_kindFor_22 rfl rfl rfl ?_
        refine V.iload_n dX9_kindFor_23 rfl rfl rfl ?_
        refine V.callv_i (M1 := M) (v := if 999 < m + k then 1 else 0) (md' := m_X9_isTooLate) (As := [.int (nI k)]) (rest := []) dX9_kindFor_24 ml_X9_171 mo_X9_isTooLate ⟨Nat.le_of_ble_eq_true rfl, Nat.le_of_ble_eq_true rfl⟩ rfl ⟨_, _, rfl⟩ (Nat.le_of_ble_eq_true rfl) rfl rfl (Nat.le_of_ble_eq_true rfl) (v_X9_isTooLate (by omega) (by omega) M h0) rfl ?_
        refine V.ifb_eq (tgt := 37) dX9_kindFor_27 rfl rfl (fun c27 => ?_) (fun c27 => ?_)
        · skip
          refine V.aload_n dX9_kindFor_37 rfl rfl rfl ?_
          refine V.callv_v (M1 := SV M) (md' := m_X9_saves) (As := []) (rest := []) dX9_kindFor_38 ml_X9_179 mo_X9_saves ⟨Nat.le_of_ble_eq_true rfl, Nat.le_of_ble_eq_true rfl⟩ rfl ⟨_, _, rfl⟩ (Nat.le_of_ble_eq_true rfl) rfl rfl (Nat.le_of_ble_eq_true rfl) (v_X9_saves M) rfl ?_
          refine V.iconst (v := 0) dX9_kindFor_41 rfl rfl ?_
          refine V.ist_n dX9_kindFor_42 rfl (by decide) (L' := [(0, .ref 62), (1, .int (nI b)), (2, .int (nI k)), (3, .int 0)]) rfl rfl ?_
          refine V.iconst (v := -1) dX9_kindFor_43 rfl rfl ?_
          refine V.ist dX9_kindFor_44 (by decide) (L' := [(0, .ref 62), (1, .int (nI b)), (2, .int (nI k)), (3, .int 0), (4, .int (-1))]) rfl rfl ?_
          refine V.iconst (v := 0) dX9_kindFor_46 rfl rfl ?_
          refine V.ist dX9_kindFor_47 (by decide) (L' := [(0, .ref 62), (1, .int (nI b)), (2, .int (nI k)), (3, .int 0), (4, .int (-1)), (5, .int 0)]) rfl rfl ?_
          rw [show pKindFor c cc m (nI b) (nI k) M = (bestG (kdF c cc k m b M) nI 7 0 0 (-1), SV M) from by simp (decide := true) [pKindFor, c5, c12, eb, ek, c27]]
          exact l_X9_kindFor hc hcc (by omega) hm M hb (hW b hb) 7 0 0 (-1) (by omega)
        · skip
          refine V.aload_n dX9_kindFor_30 rfl rfl rfl ?_
          refine V.ldc (v := -1000005) dX9_kindFor_31 cn_X9_98 rfl ?_
          refine V.callv_i (M1 := fdM 4 M) (v := -1000005) (md' := m_X9_finds) (As := [.int (-1000005)]) (rest := []) dX9_kindFor_33 ml_X9_51 mo_X9_finds ⟨Nat.le_of_ble_eq_true rfl, Nat.le_of_ble_eq_true rfl⟩ rfl ⟨_, _, rfl⟩ (Nat.le_of_ble_eq_true rfl) rfl rfl (Nat.le_of_ble_eq_true rfl) (v_X9_finds (w := 4) (by decide) (-1000005) (by decide +kernel) _) rfl ?_
          exact V.ret dX9_kindFor_36 rfl rfl ⟨(by first | (simp (decide := true) [pKindFor, c5, c12, eb, ek, c27]; done) | (simp (decide := true) [pKindFor, c5, c12, eb, ek, c27]; done) | (simp (decide := true) [pKindFor, c5, c12, eb, ek, c27]; done) | (simp_all (decide := true) [pKindFor]; done) | (simp_all (decide := true) [pKindFor, ltF, leF]; done)), (by first | (simp (decide := true) [pKindFor, c5, c12, eb, ek, c27]; done) | (simp (decide := true) [pKindFor, c5, c12, eb, ek, c27]; done) | (simp (decide := true) [pKindFor, c5, c12, eb, ek, c27]; done) | (simp_all (decide := true) [pKindFor]; done) | (simp_all (decide := true) [pKindFor, ltF, leF]; done))⟩
    · skip
      refine V.aload_n dX9_kindFor_15 rfl rfl rfl ?_
      refine V.ldc (v := -1000001) dX9_kindFor_16 cn_X9_37 rfl ?_
      refine V.callv_i (M1 := fdM 0 M) (v := -1000001) (md' := m_X9_finds) (As := [.int (-1000001)]) (rest := []) dX9_kindFor_18 ml_X9_51 mo_X9_finds ⟨Nat.le_of_ble_eq_true rfl, Nat.le_of_ble_eq_true rfl⟩ rfl ⟨_, _, rfl⟩ (Nat.le_of_ble_eq_true rfl) rfl rfl (Nat.le_of_ble_eq_true rfl) (v_X9_finds (w := 0) (by decide) (-1000001) (by decide +kernel) _) rfl ?_
      exact V.ret dX9_kindFor_21 rfl rfl ⟨(by first | (simp (decide := true) [pKindFor, c5, c12]; done) | (simp (decide := true) [pKindFor, c5, c12]; done) | (simp (decide := true) [pKindFor, c5, c12]; done) | (simp_all (decide := true) [pKindFor]; done) | (simp_all (decide := true) [pKindFor, ltF, leF]; done)), (by first | (simp (decide := true) [pKindFor, c5, c12]; done) | (simp (decide := true) [pKindFor, c5, c12]; done) | (simp (decide := true) [pKindFor, c5, c12]; done) | (simp_all (decide := true) [pKindFor]; done) | (simp_all (decide := true) [pKindFor, ltF, leF]; done))⟩
def twM (c cc k m i : Nat) (M : Mem) : Mem := if mGo c cc k m (mWalkM (nI (i / 4)) (SV M)) 63 9 = 0 then mWalkM (nI (i % 4)) (mGo c cc k m (mWalkM (nI (i / 4)) (SV M))) else mGo c cc k m (mWalkM (nI (i / 4)) (SV M))
def twF (c cc k n m : Nat) (M : Mem) : Nat → Int32 := fun i => cnF c cc (n - k) (m + k) (twM c cc k m i M) M
def twI (i : Nat) : Int32 := nI (10 * (i / 4) + i % 4)
theorem l_X9_two {c : Nat} (hc : c ≤ 10) {cc : Nat} (hcc : cc ≤ 12) {k n1 m : Nat} (hkn : k < n1) (hn : n1 ≤ 120) (hm : m ≤ 3000) (M : Mem) (hW : ∀ i, i < 4 → WM c cc m (mWalkM (nI i) (SV M))) (hW2 : ∀ i, i < 16 → WM c cc (m + k) (twM c cc k m i M)) : ∀ (n i : Nat) (b mo : Int32), i + n = 16 → V m_X9_two 68 [(0, .ref 62), (1, .int (nI k)), (2, .int (nI n1)), (3, .int b), (4, .int mo), (5, .int (nI i))] [] (SV M) (RT (some (.int (bestG (twF c cc k n1 m M) twI n i b mo))) (SV M)) := by
  intro n
  induction n with
  | zero =>
    intro i b mo hi
    refine V.iload dX9_two_68 rfl rfl ?_
    refine V.bipush (v := 16) dX9_two_70 (by decide) rfl ?_
    refine V.icmp_ge (tgt := 161) dX9_two_72 rfl rfl (fun c72 => ?_) (fun c72 => absurd ((nI_leI (a := 16) (b := i) (by omega) (by omega)).mpr (by omega)) c72)
    have c72 : 16 ≤ i := (nI_leI (a := 16) (b := i) (by omega) (by omega)).mp c72
    refine V.iload_n dX9_two_161 rfl rfl rfl ?_
    exact V.ret dX9_two_162 rfl rfl ⟨rfl, rfl⟩
  | succ n ih =>
    intro i b mo hi
    refine V.iload dX9_two_68 rfl rfl ?_
    refine V.bipush (v := 16) dX9_two_70 (by decide) rfl ?_
    refine V.icmp_ge (tgt := 161) dX9_two_72 rfl rfl (fun c72 => absurd ((nI_leI (a := 16) (b := i) (by omega) (by omega)).mp c72) (by omega)) (fun c72 => ?_)
    have c72 : ¬ 16 ≤ i := fun zq => c72 ((nI_leI (a := 16) (b := i) (by omega) (by omega)).mpr zq)
    refine V.aload_n dX9_two_75 rfl rfl rfl ?_
    refine V.iload dX9_two_76 rfl rfl ?_
    refine V.iconst (v := 4) dX9_two_78 rfl rfl ?_
    refine V.idiv (v := nI (i / 4)) dX9_two_79 (by decide) (pk_div (by omega) (by decide) (by decide)) rfl ?_
    refine V.callv_v (M1 := mWalkM (nI (i / 4)) (SV M)) (md' := m_X9_walks) (As := [.int (nI (i / 4))]) (rest := []) dX9_two_80 ml_X9_131 mo_X9_walks ⟨Nat.le_of_ble_eq_true rfl, Nat.le_of_ble_eq_true rfl⟩ rfl ⟨_, _, rfl⟩ (Nat.le_of_ble_eq_true rfl) rfl rfl (Nat.le_of_ble_eq_true rfl) (v_X9_walks (nI (i / 4)) _) rfl ?_
    refine V.aload_n dX9_two_83 rfl rfl rfl ?_
    refine V.iload_n dX9_two_84 rfl rfl rfl ?_
    refine V.callv_v (M1 := mGo c cc k m (mWalkM (nI (i / 4)) (SV M))) (md' := m_X9_minutesGo) (As := [.int (nI k)]) (rest := []) dX9_two_85 ml_X9_174 mo_X9_minutesGo ⟨Nat.le_of_ble_eq_true rfl, Nat.le_of_ble_eq_true rfl⟩ rfl ⟨_, _, rfl⟩ (Nat.le_of_ble_eq_true rfl) rfl rfl (Nat.le_of_ble_eq_true rfl) (v_X9_minutesGo hc hcc (by omega) _ (hW (i / 4) (by omega)) (by omega)) rfl ?_
    refine V.aload_n dX9_two_88 rfl rfl rfl ?_
    refine V.getr dX9_two_89 fg_X9_7 rfl rfl rfl ?_
    refine V.bipush (v := 9) dX9_two_92 (by decide) rfl ?_
    refine V.ialdN (j := 9) (v := (mGo c cc k m (mWalkM (nI (i / 4)) (SV M))) 63 9) dX9_two_94 rfl (by decide) (by decide) rfl rfl rfl ?_
    refine V.if_ne (tgt := 106) dX9_two_95 rfl rfl (fun c95 => ?_) (fun c95 => ?_)
    · skip
      refine V.aload_n dX9_two_106 rfl rfl rfl ?_
      refine V.iload_n dX9_two_107 rfl rfl rfl ?_
      refine V.iload_n dX9_two_108 rfl rfl rfl ?_
      refine V.isub (v := nI (n1 - k)) dX9_two_109 (pk_sub (by omega)) rfl ?_
      refine V.callv_i (M1 := SV M) (v := twF c cc k n1 m M i) (md' := m_X9_coinIn) (As := [.int (nI (n1 - k))]) (rest := []) dX9_two_110 ml_X9_205 mo_X9_coinIn ⟨Nat.le_of_ble_eq_true rfl, Nat.le_of_ble_eq_true rfl⟩ rfl ⟨_, _, rfl⟩ (Nat.le_of_ble_eq_true rfl) rfl rfl (Nat.le_of_ble_eq_true rfl) (by rw [show mGo c cc k m (mWalkM (nI (i / 4)) (SV M)) = twM c cc k m i M from by rw [twM, if_neg c95]]; exact v_X9_coinIn hc hcc (n := n1 - k) (m := m + k) (by omega) (by omega) M _ (by rw [twM]; split <;> first | exact off_walk (off_go hc _ _ _ (off_walk (off_self M))) | exact off_go hc _ _ _ (off_walk (off_self M))) (hW2 i (by omega))) rfl ?_
      refine V.ist dX9_two_113 (by decide) (L' := [(0, .ref 62), (1, .int (nI k)), (2, .int (nI n1)), (3, .int b), (4, .int mo), (5, .int (nI i)), (6, .int (twF c cc k n1 m M i))]) rfl rfl ?_
      refine V.iload dX9_two_115 rfl rfl ?_
      refine V.iload dX9_two_117 rfl rfl ?_
      refine V.icmp_le (tgt := 137) dX9_two_119 rfl rfl (fun c119 => ?_) (fun c119 => ?_)
      · skip
        refine V.iload_n dX9_two_137 rfl rfl rfl ?_
        refine V.ist_n dX9_two_138 rfl (by decide) (L' := [(0, .ref 62), (1, .int (nI k)), (2, .int (nI n1)), (3, .int b), (4, .int mo), (5, .int (nI i)), (6, .int (twF c cc k n1 m M i))]) rfl rfl ?_
        refine V.iload dX9_two_139 rfl rfl ?_
        refine V.iload dX9_two_141 rfl rfl ?_
        refine V.icmp_le (tgt := 151) dX9_two_143 rfl rfl (fun c143 => ?_) (fun c143 => absurd c143 (fun q => q c119))
        refine V.iload dX9_two_151 rfl rfl ?_
        refine V.ist dX9_two_153 (by decide) (L' := [(0, .ref 62), (1, .int (nI k)), (2, .int (nI n1)), (3, .int b), (4, .int mo), (5, .int (nI i)), (6, .int (twF c cc k n1 m M i))]) rfl rfl ?_
        refine V.inc (v := nI (i + 1)) dX9_two_155 rfl (nI_1 _) (by decide) (L' := [(0, .ref 62), (1, .int (nI k)), (2, .int (nI n1)), (3, .int b), (4, .int mo), (5, .int (nI (i + 1))), (6, .int (twF c cc k n1 m M i))]) rfl rfl ?_
        refine V.goto (pc' := 68) dX9_two_158 rfl ?_
        refine V.loc (L' := [(0, .ref 62), (1, .int (nI k)), (2, .int (nI n1)), (3, .int b), (4, .int mo), (5, .int (nI (i + 1)))]) (fun zq zh => List.mem_append_left [(6, Value.int (twF c cc k n1 m M i))] zh) ?_
        rw [show bestG (twF c cc k n1 m M) twI (n + 1) i b mo = bestG (twF c cc k n1 m M) twI n (i + 1) b mo from by simp only [bestG]; rw [if_neg (Int32.not_lt.mpr c119), if_neg (Int32.not_lt.mpr c119)]]
        exact ih (i + 1) _ _ (by omega)
      · skip
        refine V.bipush (v := 10) dX9_two_122 (by decide) rfl ?_
        refine V.iload dX9_two_124 rfl rfl ?_
        refine V.iconst (v := 4) dX9_two_126 rfl rfl ?_
        refine V.idiv (v := nI (i / 4)) dX9_two_127 (by decide) (pk_div (by omega) (by decide) (by decide)) rfl ?_
        refine V.imul (v := nI (10 * (i / 4))) dX9_two_128 (pk_mul 10 _) rfl ?_
        refine V.iload dX9_two_129 rfl rfl ?_
        refine V.iconst (v := 4) dX9_two_131 rfl rfl ?_
        refine V.irem (v := nI (i % 4)) dX9_two_132 (by decide) (pk_rem (by omega) (by decide) (by decide)) rfl ?_
        refine V.iadd (v := twI i) dX9_two_133 (nI_add _ _) rfl ?_
        refine V.goto (pc' := 138) dX9_two_134 rfl ?_
        refine V.ist_n dX9_two_138 rfl (by decide) (L' := [(0, .ref 62), (1, .int (nI k)), (2, .int (nI n1)), (3, .int (twI i)), (4, .int mo), (5, .int (nI i)), (6, .int (twF c cc k n1 m M i))]) rfl rfl ?_
        refine V.iload dX9_two_139 rfl rfl ?_
        refine V.iload dX9_two_141 rfl rfl ?_
        refine V.icmp_le (tgt := 151) dX9_two_143 rfl rfl (fun c143 => absurd c143 c119) (fun c143 => ?_)
        refine V.iload dX9_two_146 rfl rfl ?_
        refine V.goto (pc' := 153) dX9_two_148 rfl ?_
        refine V.ist dX9_two_153 (by decide) (L' := [(0, .ref 62), (1, .int (nI k)), (2, .int (nI n1)), (3, .int (twI i)), (4, .int (twF c cc k n1 m M i)), (5, .int (nI i)), (6, .int (twF c cc k n1 m M i))]) rfl rfl ?_
        refine V.inc (v := nI (i + 1)) dX9_two_155 rfl (nI_1 _) (by decide) (L' := [(0, .ref 62), (1, .int (nI k)), (2, .int (nI n1)), (3, .int (twI i)), (4, .int (twF c cc k n1 m M i)), (5, .int (nI (i + 1))), (6, .int (twF c cc k n1 m M i))]) rfl rfl ?_
        refine V.goto (pc' := 68) dX9_two_158 rfl ?_
        refine V.loc (L' := [(0, .ref 62), (1, .int (nI k)), (2, .int (nI n1)), (3, .int (twI i)), (4, .int (twF c cc k n1 m M i)), (5, .int (nI (i + 1)))]) (fun zq zh => List.mem_append_left [(6, Value.int (twF c cc k n1 m M i))] zh) ?_
        rw [show bestG (twF c cc k n1 m M) twI (n + 1) i b mo = bestG (twF c cc k n1 m M) twI n (i + 1) (twI i) (twF c cc k n1 m M i) from by simp only [bestG]; rw [if_pos (Int32.not_le.mp c119), if_pos (Int32.not_le.mp c119)]]
        exact ih (i + 1) _ _ (by omega)
    · skip
      refine V.aload_n dX9_two_98 rfl rfl rfl ?_
      refine V.iload dX9_two_99 rfl rfl ?_
      refine V.iconst (v := 4) dX9_two_101 rfl rfl ?_
      refine V.irem (v := nI (i % 4)) dX9_two_102 (by decide) (pk_rem (by omega) (by decide) (by decide)) rfl ?_
      refine V.callv_v (M1 := mWalkM (nI (i % 4)) (mGo c cc k m (mWalkM (nI (i / 4)) (SV M)))) (md' := m_X9_walks) (As := [.int (nI (i % 4))]) (rest := []) dX9_two_103 ml_X9_131 mo_X9_walks ⟨Nat.le_of_ble_eq_true rfl, Nat.le_of_ble_eq_true rfl⟩ rfl ⟨_, _, rfl⟩ (Nat.le_of_ble_eq_true rfl) rfl rfl (Nat.le_of_ble_eq_true rfl) (v_X9_walks (nI (i % 4)) _) rfl ?_
      refine V.aload_n dX9_two_106 rfl rfl rfl ?_
      refine V.iload_n dX9_two_107 rfl rfl rfl ?_
      refine V.iload_n dX9_two_108 rfl rfl rfl ?_
      refine V.isub (v := nI (n1 - k)) dX9_two_109 (pk_sub (by omega)) rfl ?_
      refine V.callv_i (M1 := SV M) (v := twF c cc k n1 m M i) (md' := m_X9_coinIn) (As := [.int (nI (n1 - k))]) (rest := []) dX9_two_110 ml_X9_205 mo_X9_coinIn ⟨Nat.le_of_ble_eq_true rfl, Nat.le_of_ble_eq_true rfl⟩ rfl ⟨_, _, rfl⟩ (Nat.le_of_ble_eq_true rfl) rfl rfl (Nat.le_of_ble_eq_true rfl) (by rw [show mWalkM (nI (i % 4)) (mGo c cc k m (mWalkM (nI (i / 4)) (SV M))) = twM c cc k m i M from by rw [twM, if_pos c95]]; exact v_X9_coinIn hc hcc (n := n1 - k) (m := m + k) (by omega) (by omega) M _ (by rw [twM]; split <;> first | exact off_walk (off_go hc _ _ _ (off_walk (off_self M))) | exact off_go hc _ _ _ (off_walk (off_self M))) (hW2 i (by omega))) rfl ?_
      refine V.ist dX9_two_113 (by decide) (L' := [(0, .ref 62), (1, .int (nI k)), (2, .int (nI n1)), (3, .int b), (4, .int mo), (5, .int (nI i)), (6, .int (twF c cc k n1 m M i))]) rfl rfl ?_
      refine V.iload dX9_two_115 rfl rfl ?_
      refine V.iload dX9_two_117 rfl rfl ?_
      refine V.icmp_le (tgt := 137) dX9_two_119 rfl rfl (fun c119 => ?_) (fun c119 => ?_)
      · skip
        refine V.iload_n dX9_two_137 rfl rfl rfl ?_
        refine V.ist_n dX9_two_138 rfl (by decide) (L' := [(0, .ref 62), (1, .int (nI k)), (2, .int (nI n1)), (3, .int b), (4, .int mo), (5, .int (nI i)), (6, .int (twF c cc k n1 m M i))]) rfl rfl ?_
        refine V.iload dX9_two_139 rfl rfl ?_
        refine V.iload dX9_two_141 rfl rfl ?_
        refine V.icmp_le (tgt := 151) dX9_two_143 rfl rfl (fun c143 => ?_) (fun c143 => absurd c143 (fun q => q c119))
        refine V.iload dX9_two_151 rfl rfl ?_
        refine V.ist dX9_two_153 (by decide) (L' := [(0, .ref 62), (1, .int (nI k)), (2, .int (nI n1)), (3, .int b), (4, .int mo), (5, .int (nI i)), (6, .int (twF c cc k n1 m M i))]) rfl rfl ?_
        refine V.inc (v := nI (i + 1)) dX9_two_155 rfl (nI_1 _) (by decide) (L' := [(0, .ref 62), (1, .int (nI k)), (2, .int (nI n1)), (3, .int b), (4, .int mo), (5, .int (nI (i + 1))), (6, .int (twF c cc k n1 m M i))]) rfl rfl ?_
        refine V.goto (pc' := 68) dX9_two_158 rfl ?_
        refine V.loc (L' := [(0, .ref 62), (1, .int (nI k)), (2, .int (nI n1)), (3, .int b), (4, .int mo), (5, .int (nI (i + 1)))]) (fun zq zh => List.mem_append_left [(6, Value.int (twF c cc k n1 m M i))] zh) ?_
        rw [show bestG (twF c cc k n1 m M) twI (n + 1) i b mo = bestG (twF c cc k n1 m M) twI n (i + 1) b mo from by simp only [bestG]; rw [if_neg (Int32.not_lt.mpr c119), if_neg (Int32.not_lt.mpr c119)]]
        exact ih (i + 1) _ _ (by omega)
      · skip
        refine V.bipush (v := 10) dX9_two_122 (by decide) rfl ?_
        refine V.iload dX9_two_124 rfl rfl ?_
        refine V.iconst (v := 4) dX9_two_126 rfl rfl ?_
        refine V.idiv (v := nI (i / 4)) dX9_two_127 (by decide) (pk_div (by omega) (by decide) (by decide)) rfl ?_
        refine V.imul (v := nI (10 * (i / 4))) dX9_two_128 (pk_mul 10 _) rfl ?_
        refine V.iload dX9_two_129 rfl rfl ?_
        refine V.iconst (v := 4) dX9_two_131 rfl rfl ?_
        refine V.irem (v := nI (i % 4)) dX9_two_132 (by decide) (pk_rem (by omega) (by decide) (by decide)) rfl ?_
        refine V.iadd (v := twI i) dX9_two_133 (nI_add _ _) rfl ?_
        refine V.goto (pc' := 138) dX9_two_134 rfl ?_
        refine V.ist_n dX9_two_138 rfl (by decide) (L' := [(0, .ref 62), (1, .int (nI k)), (2, .int (nI n1)), (3, .int (twI i)), (4, .int mo), (5, .int (nI i)), (6, .int (twF c cc k n1 m M i))]) rfl rfl ?_
        refine V.iload dX9_two_139 rfl rfl ?_
        refine V.iload dX9_two_141 rfl rfl ?_
        refine V.icmp_le (tgt := 151) dX9_two_143 rfl rfl (fun c143 => absurd c143 c119) (fun c143 => ?_)
        refine V.iload dX9_two_146 rfl rfl ?_
        refine V.goto (pc' := 153) dX9_two_148 rfl ?_
        refine V.ist dX9_two_153 (by decide) (L' := [(0, .ref 62), (1, .int (nI k)), (2, .int (nI n1)), (3, .int (twI i)), (4, .int (twF c cc k n1 m M i)), (5, .int (nI i)), (6, .int (twF c cc k n1 m M i))]) rfl rfl ?_
        refine V.inc (v := nI (i + 1)) dX9_two_155 rfl (nI_1 _) (by decide) (L' := [(0, .ref 62), (1, .int (nI k)), (2, .int (nI n1)), (3, .int (twI i)), (4, .int (twF c cc k n1 m M i)), (5, .int (nI (i + 1))), (6, .int (twF c cc k n1 m M i))]) rfl rfl ?_
        refine V.goto (pc' := 68) dX9_two_158 rfl ?_
        refine V.loc (L' := [(0, .ref 62), (1, .int (nI k)), (2, .int (nI n1)), (3, .int (twI i)), (4, .int (twF c cc k n1 m M i)), (5, .int (nI (i + 1)))]) (fun zq zh => List.mem_append_left [(6, Value.int (twF c cc k n1 m M i))] zh) ?_
        rw [show bestG (twF c cc k n1 m M) twI (n + 1) i b mo = bestG (twF c cc k n1 m M) twI n (i + 1) (twI i) (twF c cc k n1 m M i) from by simp only [bestG]; rw [if_pos (Int32.not_le.mp c119), if_pos (Int32.not_le.mp c119)]]
        exact ih (i + 1) _ _ (by omega)
def pTwo (c cc m : Nat) (y n : Int32) (M : Mem) : Int32 × Mem := if ¬ (rng 1 60 y ∧ rng 1 120 n ∧ y < n) then (-1000001, fdM 0 M) else if 0 < M 63 9 ∨ 999 < m + n.toNatClampNeg then (-1000005, fdM 4 M) else (bestG (twF c cc y.toNatClampNeg n.toNatClampNeg m M) twI 16 0 0 (-1), SV M)
theorem v_X9_two {c : Nat} (hc : c ≤ 10) {cc : Nat} (hcc : cc ≤ 12) {m : Nat} (hm : m ≤ 3000) (y n : Int32) (M : Mem) (hM : M 63 1 = nI c) (h2 : M 63 2 = nI cc) (h0 : M 63 0 = nI m) (hW : ∀ i, i < 4 → WM c cc m (mWalkM (nI i) (SV M))) (hW2 : ∀ k, k ≤ 60 → ∀ i, i < 16 → WM c cc (m + k) (twM c cc k m i M)) : V m_X9_two 0 [(0, .ref 62), (1, .int y), (2, .int n)] [] M (RT (some (.int ((pTwo c cc m y n M).1))) ((pTwo c cc m y n M).2)) := by
  refine V.iload_n dX9_two_0 rfl rfl rfl ?_
  refine V.i2l (v := Int32.toInt64 y) dX9_two_1 rfl rfl ?_
  refine V.lconst (v := 1) dX9_two_2 rfl rfl ?_
  refine V.ldc2 (v := 60) dX9_two_3 cl_X9_208 rfl ?_
  refine V.calls_i (M1 := M) (v := if rng 1 60 y then 1 else 0) (md' := m_X9_in) (As := [.long (Int32.toInt64 y), .long 1, .long 60]) (rest := []) dX9_two_6 ml_X9_38 mo_X9_in ⟨Nat.le_of_ble_eq_true rfl, Nat.le_of_ble_eq_true rfl⟩ (Nat.le_of_ble_eq_true rfl) rfl rfl (Nat.le_of_ble_eq_true rfl) (v_X9_in (x := y) (a := 1) (b := 60) rfl rfl _) rfl ?_
  refine V.ifb_eq (tgt := 24) dX9_two_9 rfl rfl (fun c9 => ?_) (fun c9 => ?_)
  · skip
    refine V.aload_n dX9_two_24 rfl rfl rfl ?_
    refine V.ldc (v := -1000001) dX9_two_25 cn_X9_37 rfl ?_
    refine V.callv_i (M1 := fdM 0 M) (v := -1000001) (md' := m_X9_finds) (As := [.int (-1000001)]) (rest := []) dX9_two_27 ml_X9_51 mo_X9_finds ⟨Nat.le_of_ble_eq_true rfl, Nat.le_of_ble_eq_true rfl⟩ rfl ⟨_, _, rfl⟩ (Nat.le_of_ble_eq_true rfl) rfl rfl (Nat.le_of_ble_eq_true rfl) (v_X9_finds (w := 0) (by decide) (-1000001) (by decide +kernel) _) rfl ?_
    exact V.ret dX9_two_30 rfl rfl ⟨(by first | (simp (decide := true) [pTwo, c9]; done) | (simp (decide := true) [pTwo, c9]; done) | (simp (decide := true) [pTwo, c9]; done) | (simp_all (decide := true) [pTwo]; done) | (simp_all (decide := true) [pTwo, ltF, leF]; done)), (by first | (simp (decide := true) [pTwo, c9]; done) | (simp (decide := true) [pTwo, c9]; done) | (simp (decide := true) [pTwo, c9]; done) | (simp_all (decide := true) [pTwo]; done) | (simp_all (decide := true) [pTwo, ltF, leF]; done))⟩
  · skip
    refine V.iload_n dX9_two_12 rfl rfl rfl ?_
    refine V.calls_i (M1 := M) (v := if rng 1 120 n then 1 else 0) (md' := m_X9_isSpan) (As := [.int n]) (rest := []) dX9_two_13 ml_X9_199 mo_X9_isSpan ⟨Nat.le_of_ble_eq_true rfl, Nat.le_of_ble_eq_true rfl⟩ (Nat.le_of_ble_eq_true rfl) rfl rfl (Nat.le_of_ble_eq_true rfl) (v_X9_isSpan n _) rfl ?_
    refine V.ifb_eq (tgt := 24) dX9_two_16 rfl rfl (fun c16 => ?_) (fun c16 => ?_)
    · skip
      refine V.aload_n dX9_two_24 rfl rfl rfl ?_
      refine V.ldc (v := -1000001) dX9_two_25 cn_X9_37 rfl ?_
      refine V.callv_i (M1 := fdM 0 M) (v := -1000001) (md' := m_X9_finds) (As := [.int (-1000001)]) (rest := []) dX9_two_27 ml_X9_51 mo_X9_finds ⟨Nat.le_of_ble_eq_true rfl, Nat.le_of_ble_eq_true rfl⟩ rfl ⟨_, _, rfl⟩ (Nat.le_of_ble_eq_true rfl) rfl rfl (Nat.le_of_ble_eq_true rfl) (v_X9_finds (w := 0) (by decide) (-1000001) (by decide +kernel) _) rfl ?_
      exact V.ret dX9_two_30 rfl rfl ⟨(by first | (simp (decide := true) [pTwo, c9, c16]; done) | (simp (decide := true) [pTwo, c9, c16]; done) | (simp (decide := true) [pTwo, c9, c16]; done) | (simp_all (decide := true) [pTwo]; done) | (simp_all (decide := true) [pTwo, ltF, leF]; done)), (by first | (simp (decide := true) [pTwo, c9, c16]; done) | (simp (decide := true) [pTwo, c9, c16]; done) | (simp (decide := true) [pTwo, c9, c16]; done) | (simp_all (decide := true) [pTwo]; done) | (simp_all (decide := true) [pTwo, ltF, leF]; done))⟩
    · skip
      refine V.iload_n dX9_two_19 rfl rfl rfl ?_
      refine V.iload_n dX9_two_20 rfl rfl rfl ?_
      refine V.icmp_gt (tgt := 31) dX9_two_21 rfl rfl (fun c21 => ?_) (fun c21 => ?_)
      · have d21 := Int32.not_le.mpr c21
        obtain ⟨k, hk, rfl⟩ := of_rng1 (b := 60) c9
        · have ek : (nI k).toNatClampNeg = k := nI_clamp (by omega)
          obtain ⟨n1, hn1, rfl⟩ := of_rng1 (b := 120) c16
          have en1 : (nI n1).toNatClampNeg = n1 := nI_clamp (by omega)
          have hkn : k < n1 := (nI_ltI (by omega) (by omega)).mp c21
          refine V.aload_n dX9_two_31 rfl rfl rfl ?_
          refine V.getr dX9_two_32 fg_X9_7 rfl rfl rfl ?_
          refine V.bipush (v := 9) dX9_two_35 (by decide) rfl ?_
          refine V.ialdN (j := 9) (v := M 63 9) dX9_two_37 rfl (by decide) (by decide) rfl rfl rfl ?_
          refine V.if_gt (tgt := 49) dX9_two_38 rfl rfl (fun c38 => ?_) (fun c38 => ?_)
          · have d38 := Int32.not_le.mpr c38
            refine V.aload_n dX9_two_49 rfl rfl rfl ?_
            refine V.ldc (v := -1000005) dX9_two_50 cn_X9_98 rfl ?_
            refine V.callv_i (M1 := fdM 4 M) (v := -1000005) (md' := m_X9_finds) (As := [.int (-1000005)]) (rest := []) dX9_two_52 ml_X9_51 mo_X9_finds ⟨Nat.le_of_ble_eq_true rfl, Nat.le_of_ble_eq_true rfl⟩ rfl ⟨_, _, rfl⟩ (Nat.le_of_ble_eq_true rfl) rfl rfl (Nat.le_of_ble_eq_true rfl) (v_X9_finds (w := 4) (by decide) (-1000005) (by decide +kernel) _) rfl ?_
            exact V.ret dX9_two_55 rfl rfl ⟨(by first | (simp (decide := true) [pTwo, c9, c16, c21, d21, ek, en1, c38, d38]; done) | (simp (decide := true) [pTwo, c9, c16, c21, c21, ek, en1, c38, c38]; done) | (simp (decide := true) [pTwo, c9, c16, c21, d21, ek, en1, c38, d38, c21, c38]; done) | (simp_all (decide := true) [pTwo]; done) | (simp_all (decide := true) [pTwo, ltF, leF]; done)), (by first | (simp (decide := true) [pTwo, c9, c16, c21, d21, ek, en1, c38, d38]; done) | (simp (decide := true) [pTwo, c9, c16, c21, c21, ek, en1, c38, c38]; done) | (simp (decide := true) [pTwo, c9, c16, c21, d21, ek, en1, c38, d38, c21, c38]; done) | (simp_all (decide := true) [pTwo]; done) | (simp_all (decide := true) [pTwo, ltF, leF]; done))⟩
          · have d38 := Int32.not_lt.mp c38
            refine V.aload_n dX9_two_41 rfl rfl rfl ?_
            refine V.iload_n dX9_two_42 rfl rfl rfl ?_
            refine V.callv_i (M1 := M) (v := if 999 < m + n1 then 1 else 0) (md' := m_X9_isTooLate) (As := [.int (nI n1)]) (rest := []) dX9_two_43 ml_X9_171 mo_X9_isTooLate ⟨Nat.le_of_ble_eq_true rfl, Nat.le_of_ble_eq_true rfl⟩ rfl ⟨_, _, rfl⟩ (Nat.le_of_ble_eq_true rfl) rfl rfl (Nat.le_of_ble_eq_true rfl) (v_X9_isTooLate (by omega) (by omega) M h0) rfl ?_
            refine V.ifb_eq (tgt := 56) dX9_two_46 rfl rfl (fun c46 => ?_) (fun c46 => ?_)
            · skip
              refine V.aload_n dX9_two_56 rfl rfl rfl ?_
              refine V.callv_v (M1 := SV M) (md' := m_X9_saves) (As := []) (rest := []) dX9_two_57 ml_X9_179 mo_X9_saves ⟨Nat.le_of_ble_eq_true rfl, Nat.le_of_ble_eq_true rfl⟩ rfl ⟨_, _, rfl⟩ (Nat.le_of_ble_eq_true rfl) rfl rfl (Nat.le_of_ble_eq_true rfl) (v_X9_saves M) rfl ?_
              refine V.iconst (v := 0) dX9_two_60 rfl rfl ?_
              refine V.ist_n dX9_two_61 rfl (by decide) (L' := [(0, .ref 62), (1, .int (nI k)), (2, .int (nI n1)), (3, .int 0)]) rfl rfl ?_
              refine V.iconst (v := -1) dX9_two_62 rfl rfl ?_
              refine V.ist dX9_two_63 (by decide) (L' := [(0, .ref 62), (1, .int (nI k)), (2, .int (nI n1)), (3, .int 0), (4, .int (-1))]) rfl rfl ?_
              refine V.iconst (v := 0) dX9_two_65 rfl rfl ?_
              refine V.ist dX9_two_66 (by decide) (L' := [(0, .ref 62), (1, .int (nI k)), (2, .int (nI n1)), (3, .int 0), (4, .int (-1)), (5, .int 0)]) rfl rfl ?_
              rw [show pTwo c cc m (nI k) (nI n1) M = (bestG (twF c cc k n1 m M) twI 16 0 0 (-1), SV M) from by simp (decide := true) [pTwo, c9, c16, c21, d21, ek, en1, c38, d38, c46]]
              exact l_X9_two hc hcc hkn (by omega) hm M hW (hW2 k (by omega)) 16 0 0 (-1) (by omega)
            · skip
              refine V.aload_n dX9_two_49 rfl rfl rfl ?_
              refine V.ldc (v := -1000005) dX9_two_50 cn_X9_98 rfl ?_
              refine V.callv_i (M1 := fdM 4 M) (v := -1000005) (md' := m_X9_finds) (As := [.int (-1000005)]) (rest := []) dX9_two_52 ml_X9_51 mo_X9_finds ⟨Nat.le_of_ble_eq_true rfl, Nat.le_of_ble_eq_true rfl⟩ rfl ⟨_, _, rfl⟩ (Nat.le_of_ble_eq_true rfl) rfl rfl (Nat.le_of_ble_eq_true rfl) (v_X9_finds (w := 4) (by decide) (-1000005) (by decide +kernel) _) rfl ?_
              exact V.ret dX9_two_55 rfl rfl ⟨(by first | (simp (decide := true) [pTwo, c9, c16, c21, d21, ek, en1, c38, d38, c46]; done) | (simp (decide := true) [pTwo, c9, c16, c21, c21, ek, en1, c38, c38, c46]; done) | (simp (decide := true) [pTwo, c9, c16, c21, d21, ek, en1, c38, d38, c46, c21, c38]; done) | (simp_all (decide := true) [pTwo]; done) | (simp_all (decide := true) [pTwo, ltF, leF]; done)), (by first | (simp (decide := true) [pTwo, c9, c16, c21, d21, ek, en1, c38, d38, c46]; done) | (simp (decide := true) [pTwo, c9, c16, c21, c21, ek, en1, c38, c38, c46]; done) | (simp (decide := true) [pTwo, c9, c16, c21, d21, ek, en1, c38, d38, c46, c21, c38]; done) | (simp_all (decide := true) [pTwo]; done) | (simp_all (decide := true) [pTwo, ltF, leF]; done))⟩
      · have d21 := Int32.not_lt.mp c21
        refine V.aload_n dX9_two_24 rfl rfl rfl ?_
        refine V.ldc (v := -1000001) dX9_two_25 cn_X9_37 rfl ?_
        refine V.callv_i (M1 := fdM 0 M) (v := -1000001) (md' := m_X9_finds) (As := [.int (-1000001)]) (rest := []) dX9_two_27 ml_X9_51 mo_X9_finds ⟨Nat.le_of_ble_eq_true rfl, Nat.le_of_ble_eq_true rfl⟩ rfl ⟨_, _, rfl⟩ (Nat.le_of_ble_eq_true rfl) rfl rfl (Nat.le_of_ble_eq_true rfl) (v_X9_finds (w := 0) (by decide) (-1000001) (by decide +kernel) _) rfl ?_
        exact V.ret dX9_two_30 rfl rfl ⟨(by first | (simp (decide := true) [pTwo, c9, c16, c21, d21]; done) | (simp (decide := true) [pTwo, c9, c16, c21, c21]; done) | (simp (decide := true) [pTwo, c9, c16, c21, d21, c21]; done) | (simp_all (decide := true) [pTwo]; done) | (simp_all (decide := true) [pTwo, ltF, leF]; done)), (by first | (simp (decide := true) [pTwo, c9, c16, c21, d21]; done) | (simp (decide := true) [pTwo, c9, c16, c21, c21]; done) | (simp (decide := true) [pTwo, c9, c16, c21, d21, c21]; done) | (simp_all (decide := true) [pTwo]; done) | (simp_all (decide := true) [pTwo, ltF, leF]; done))⟩
