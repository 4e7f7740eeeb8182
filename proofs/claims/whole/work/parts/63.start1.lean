/-! The memory when both objects are made -/
def zf : Nat → Int32 := fun _ => 0
def fEv : Nat → Int32 := fun j => if j = 4 then 5 else if j = 5 then 4 else if j = 6 then 5 else if j = 14 then 1 else 0
def fCh : Nat → Int32 := fun j => if j = 0 then -1 else 0
def rEv : List (Nat → Int32) := [fEv, zf, zf, zf, zf, zf, zf, zf, zf, zf, zf, zf, fSp 10]
def rows0 : List (Nat → Int32) := zf :: (rEv ++ (rEv ++ (rEv ++ (rEv ++ [fCh, zf, zf, zf, zf, zf, zf, zf, zf, zf, fM 10, zf, zf, zf, zf, zf, zf, zf, zf]))))
def M0 : Mem := fun a => rows0.getD a zf
theorem RQ_0 : RQ 0 M0 M0 := by
  refine ⟨⟨0, 0, 4, 0, by decide, by decide, by decide, by decide, ⟨fun b h => absurd h (Nat.not_lt_zero _), rfl, rfl, rfl, rfl, rfl, rfl, rfl, rfl, fun i h => absurd h (Nat.not_lt_zero _), fun k hk => ?_, rfl, rfl, rfl, rfl, rfl, rfl, fun k hk => ?_, rfl, rfl, rfl, ⟨5, by decide, rfl⟩, fun k hk => ⟨0, by decide, ?_⟩, fun b h => absurd h (Nat.not_lt_zero _), fun b h => absurd h (Nat.not_lt_zero _), ⟨0, by decide, rfl⟩, ⟨0, by decide, rfl⟩, ⟨5, by decide, rfl⟩, fun i h => absurd h (Nat.not_lt_zero _)⟩, fun b h => absurd h (Nat.not_lt_zero _), fun k hk => ⟨none, ?_, fun b hb => by simp at hb⟩⟩, .inl ⟨rfl, rfl⟩, ⟨0, by decide, rfl, rfl, rfl⟩, fun k hk => rfl, fun k hk => ?_⟩
  · rcases (show k = 0 ∨ k = 1 ∨ k = 2 ∨ k = 3 ∨ k = 4 ∨ k = 5 ∨ k = 6 by omega) with rfl | rfl | rfl | rfl | rfl | rfl | rfl <;> rfl
  · rcases (show k = 0 ∨ k = 1 ∨ k = 2 ∨ k = 3 ∨ k = 4 ∨ k = 5 ∨ k = 6 ∨ k = 7 ∨ k = 8 ∨ k = 9 by omega) with rfl | rfl | rfl | rfl | rfl | rfl | rfl | rfl | rfl | rfl <;> rfl
  · rcases (show k = 0 ∨ k = 1 ∨ k = 2 ∨ k = 3 ∨ k = 4 ∨ k = 5 ∨ k = 6 by omega) with rfl | rfl | rfl | rfl | rfl | rfl | rfl <;> rfl
  · rcases (show k = 0 ∨ k = 1 ∨ k = 2 ∨ k = 3 ∨ k = 4 ∨ k = 5 ∨ k = 6 ∨ k = 7 ∨ k = 8 ∨ k = 9 by omega) with rfl | rfl | rfl | rfl | rfl | rfl | rfl | rfl | rfl | rfl <;> rfl
  · refine ⟨0, by decide, ?_, ?_, ?_, fun i h => absurd h (Nat.not_lt_zero _), .inl ?_⟩ <;> rcases (show k = 0 ∨ k = 1 ∨ k = 2 ∨ k = 3 by omega) with rfl | rfl | rfl | rfl <;> rfl
def adF (a b : Nat → Nat) (q0 q1 tF bb : Nat) (K Z : Nat → Nat) : Nat → Nat := fun k => if k < 72 then (if k = 0 then q0 else if k < 62 then a k else if k = 62 then q1 else b (k - 63)) else if k = 98 then tF else if k = 99 then bb else if k < 200 then K (k - 100) else Z (k - 200)
set_option maxRecDepth 20000 in
theorem ws_0 (a b : Nat → Nat) (q0 q1 tF bb : Nat) (K Z : Nat → Nat) (cI : ClassId) : wsOf (adF a b q0 q1 tF bb K Z) cI M0 = kCorner q0 a cI ++ pModel q1 b cI := rfl
/-! What the start gives -/
def PRE : List Cond := flatC (Jvm.Cond.and given_1 narrow_1)
def tmS (i : Nat) : Term := .string RX7 (sIdx.getD i 0)
def sPos : List Nat := [671, 737, 744, 745, 763, 734, 735, 754, 755, 756, 757, 758, 759, 760, 768, 769, 770]
theorem sref_in : ∀ i, i < 17 → tables_1[sPos.getD i 0]? = some (Cond.stringRef RX7 (sIdx.getD i 0) (sTx.getD i "")) := by decide +kernel
theorem s_len : ∀ i, i < 17 → sLen.getD i 0 < 2 ^ 31 := by decide +kernel
theorem s_ex : ∀ i, i < 17 → Cond.exactly (tmS i) "java/lang/String" ∈ PRE := by decide +kernel
theorem s_co : ∀ i, i < 17 → Cond.eq (.field (tmS i) "java/lang/String" "coder" "B") (.int 0) ∈ PRE := by decide +kernel
theorem s_ar : ∀ i, i < 17 → Cond.arrayOf (.field (tmS i) "java/lang/String" "value" "[B") .byte ∈ PRE := by decide +kernel
theorem s_le : ∀ i, i < 17 → Cond.eq (.length (.field (tmS i) "java/lang/String" "value" "[B")) (.int (Int32.ofNat (sLen.getD i 0))) ∈ PRE := by decide +kernel
theorem s_el : ∀ i, i < 17 → ∀ j, j < sLen.getD i 0 → Cond.eq (.elem (.field (tmS i) "java/lang/String" "value" "[B") (.int (Int32.ofNat j))) (.int ((sByt.getD i []).getD j 0)) ∈ PRE := by decide +kernel
def nPos : List Nat := [0, 45, 57, 69, 204, 24, 35, 81, 96, 112, 129, 145, 165, 183, 224, 245, 268, 45, 0, 60, 72, 207, 46, 47, 84, 99, 115, 132, 148, 168, 186, 227, 248, 271, 57, 60, 0, 73, 208, 58, 59, 85, 100, 116, 133, 149, 169, 187, 228, 249, 272, 69, 72, 73, 0, 209, 70, 71, 86, 101, 117, 134, 150, 170, 188, 229, 250, 273, 204, 207, 208, 209, 0, 205, 206, 210, 211, 212, 213, 214, 215, 216, 237, 258, 281, 24, 46, 58, 70, 205, 0, 36, 82, 97, 113, 130, 146, 166, 184, 225, 246, 269, 35, 47, 59, 71, 206, 36, 0, 83, 98, 114, 131, 147, 167, 185, 226, 247, 270, 81, 84, 85, 86, 210, 82, 83, 0, 102, 118, 135, 151, 171, 189, 230, 251, 274, 96, 99, 100, 101, 211, 97, 98, 102, 0, 119, 136, 152, 172, 190, 231, 252, 275, 112, 115, 116, 117, 212, 113, 114, 118, 119, 0, 137, 153, 173, 191, 232, 253, 276, 129, 132, 133, 134, 213, 130, 131, 135, 136, 137, 0, 154, 174, 192, 233, 254, 277, 145, 148, 149, 150, 214, 146, 147, 151, 152, 153, 154, 0, 175, 193, 234, 255, 278, 165, 168, 169, 170, 215, 166, 167, 171, 172, 173, 174, 175, 0, 194, 235, 256, 279, 183, 186, 187, 188, 216, 184, 185, 189, 190, 191, 192, 193, 194, 0, 236, 257, 280, 224, 227, 228, 229, 237, 225, 226, 230, 231, 232, 233, 234, 235, 236, 0, 259, 282, 245, 248, 249, 250, 258, 246, 247, 251, 252, 253, 254, 255, 256, 257, 259, 0, 283, 268, 271, 272, 273, 281, 269, 270, 274, 275, 276, 277, 278, 279, 280, 282, 283, 0]
def nBs : List Nat := [0, 1, 1, 1, 1, 1, 1, 1, 1, 1, 1, 1, 1, 1, 1, 1, 1, 0, 0, 1, 1, 1, 0, 0, 1, 1, 1, 1, 1, 1, 1, 1, 1, 1, 0, 0, 0, 1, 1, 0, 0, 1, 1, 1, 1, 1, 1, 1, 1, 1, 1, 0, 0, 0, 0, 1, 0, 0, 1, 1, 1, 1, 1, 1, 1, 1, 1, 1, 0, 0, 0, 0, 0, 0, 0, 0, 0, 0, 0, 0, 0, 0, 1, 1, 1, 0, 1, 1, 1, 1, 0, 1, 1, 1, 1, 1, 1, 1, 1, 1, 1, 1, 0, 1, 1, 1, 1, 0, 0, 1, 1, 1, 1, 1, 1, 1, 1, 1, 1, 0, 0, 0, 0, 1, 0, 0, 0, 1, 1, 1, 1, 1, 1, 1, 1, 1, 0, 0, 0, 0, 1, 0, 0, 0, 0, 1, 1, 1, 1, 1, 1, 1, 1, 0, 0, 0, 0, 1, 0, 0, 0, 0, 0, 1, 1, 1, 1, 1, 1, 1, 0, 0, 0, 0, 1, 0, 0, 0, 0, 0, 0, 1, 1, 1, 1, 1, 1, 0, 0, 0, 0, 1, 0, 0, 0, 0, 0, 0, 0, 1, 1, 1, 1, 1, 0, 0, 0, 0, 1, 0, 0, 0, 0, 0, 0, 0, 0, 1, 1, 1, 1, 0, 0, 0, 0, 1, 0, 0, 0, 0, 0, 0, 0, 0, 0, 1, 1, 1, 0, 0, 0, 0, 0, 0, 0, 0, 0, 0, 0, 0, 0, 0, 0, 1, 1, 0, 0, 0, 0, 0, 0, 0, 0, 0, 0, 0, 0, 0, 0, 0, 0, 1, 0, 0, 0, 0, 0, 0, 0, 0, 0, 0, 0, 0, 0, 0, 0, 0, 0]
def nOrd (i j : Nat) : Cond := if nBs.getD (17 * i + j) 0 = 1 then Cond.not (Cond.eq (tmS i) (tmS j)) else Cond.not (Cond.eq (tmS j) (tmS i))
theorem s_n0 : ∀ i, i < 17 → ∀ j, j < 17 → i ≠ j → PRE[nPos.getD (17 * i + j) 0]? = some (nOrd i j) := by decide +kernel
theorem s_ne (i : Nat) (hi : i < 17) (j : Nat) (hj : j < 17) (hij : i ≠ j) : Cond.not (Cond.eq (tmS i) (tmS j)) ∈ PRE ∨ Cond.not (Cond.eq (tmS j) (tmS i)) ∈ PRE := by
  have h := s_n0 i hi j hj hij
  unfold nOrd at h
  split at h
  · exact .inl (List.mem_of_getElem? h)
  · exact .inr (List.mem_of_getElem? h)
theorem c_cs : Cond.eq (.static "java/lang/String" "COMPACT_STRINGS" "Z") (.int 1) ∈ PRE := by decide +kernel
theorem c_sf : Cond.isRef (.static "jdk/internal/util/Preconditions" "SIOOBE_FORMATTER" "Ljava/util/function/BiFunction;") ∈ PRE := by decide +kernel
theorem vk_Sc {N : Nat} {len : List Nat} {byt : List (List Int32)} {K K' Z Z' : Nat → Nat} {A : Nat → Prop} {U : State} {H : Heap} (h1 : ∀ i, i < N → K' i = K i) (h2 : ∀ i, i < N → Z' i = Z i) (h : vk_S N len byt K Z A U H) : vk_S N len byt K' Z' A U H :=
  ⟨fun i hi => by rw [h1 i hi, h2 i hi]; exact h.1 i hi, fun i j hi hj e => h.2 i j hi hj (by rw [← h1 i hi, ← h1 j hj]; exact e)⟩
/-- strings and statics at the start -/
theorem sx_start {bb : Nat} {s : State} (hts : ∀ w ∈ lw_tbl, w.before #[Value.ref bb] s = true) (hgv : (Jvm.Cond.and given_1 narrow_1).before #[Value.ref bb] s = true) : ∃ (K Z : Nat → Nat) (tF : Nat), ∀ ad : Nat → Nat, (∀ i, i < 17 → ad (100 + i) = K i) → (∀ i, i < 17 → ad (200 + i) = Z i) → ad 98 = tF → (∀ q, AA ad q → s.heap.size ≤ q) → SX ad s s.heap := by
  have hp : ∀ w ∈ PRE, w.before #[Value.ref bb] s = true := flat_of_before _ hgv
  have ht : ∀ (i : Nat) (w : Cond), tables_1[i]? = some w → w.before #[Value.ref bb] s = true := fun i w h => hts w (List.mem_append_right _ (List.mem_of_getElem? h))
  have hA : ∀ a : Nat, a < s.heap.size → ¬ (fun q : Nat => s.heap.size ≤ q) a := fun a h => Nat.not_le.mpr h
  obtain ⟨K, Z, hS, hR⟩ := vk_Sof (args := #[Value.ref bb]) (s := s) (N := 17) (tm := tmS) (len := sLen) (byt := sByt) (A := fun q : Nat => s.heap.size ≤ q) s_len (fun i hi => hp _ (s_ex i hi)) (fun i hi => hp _ (s_co i hi)) (fun i hi => hp _ (s_ar i hi)) (fun i hi => hp _ (s_le i hi)) (fun i hi j hj => hp _ (s_el i hi j hj)) (fun i j hi hj hij => (s_ne i hi j hj hij).elim (fun z => .inl (hp _ z)) (fun z => .inr (hp _ z))) hA
  have hC := va_Zof (A := fun q : Nat => s.heap.size ≤ q) (ht 685 _ (by decide +kernel)) (ht 14 _ (by decide +kernel)) (va_eqi (hp _ c_cs)) hA
  have hF := va_Zqof (A := fun q : Nat => s.heap.size ≤ q) (ht 701 _ (by decide +kernel)) (ht 16 _ (by decide +kernel)) (hp _ c_sf) hA
  have hN : va_Nw (.methodLinkNest RX7 111 yX8_mostOfRule RX8) s := va_Nw.of rfl (ht 742 _ (by decide +kernel))
  have fin : ∀ tF : Nat, (va_Z "jdk/internal/util/Preconditions" "SIOOBE_FORMATTER" "Ljava/util/function/BiFunction;" .null (fun q : Nat => s.heap.size ≤ q) s s.heap ∨ va_Z "jdk/internal/util/Preconditions" "SIOOBE_FORMATTER" "Ljava/util/function/BiFunction;" (.ref tF) (fun q : Nat => s.heap.size ≤ q) s s.heap) → ∀ ad : Nat → Nat, (∀ i, i < 17 → ad (100 + i) = K i) → (∀ i, i < 17 → ad (200 + i) = Z i) → ad 98 = tF → (∀ q, AA ad q → s.heap.size ≤ q) → SX ad s s.heap := by
    intro tF hF ad h1 h2 h3 h4
    refine ⟨vk_Sc h1 h2 (hS.narrow h4), fun i hi => ?_, hC.narrow h4, ?_, hN⟩
    · rw [h1 i hi]
      exact vk_R.of (ht _ _ (sref_in i hi)) (hR i hi)
    · rw [h3]
      exact hF.elim (fun z => .inl (z.narrow h4)) (fun z => .inr (z.narrow h4))
  rcases hF with h | ⟨t, h⟩
  · exact ⟨K, Z, 0, fin 0 (.inl h)⟩
  · exact ⟨K, Z, t, fin t (.inr h)⟩
