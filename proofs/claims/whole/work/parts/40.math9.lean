/-! The relation goes over with an evening that becomes another -/
theorem bec_27_1 {c cc p m : Nat} (hc : c ≤ 10) (hcc : cc ≤ 12) {M R : Mem} (hV : RV 1 c cc p m M R) : RV 27 c cc p m (eBecM 27 1 M) R := by
  have s : ∀ j, 4 ≤ j → j ≤ 14 → eBecM 27 1 M 27 j = M 1 j := fun j h1 h2 => if_pos ⟨rfl, h1, h2⟩
  have r : ∀ a, a ≠ 27 → ∀ j, eBecM 27 1 M a j = mr (mr (cBecM 27 1 (nBecM 27 1 M)) (27+11) (va_cpy (M (1+11)) (M (27+11)) 0 0 7)) (27+12) (va_cpy (M (1+12)) (M (27+12)) 0 0 10) a j := fun a h j => if_neg (fun q => h q.1)
  have a2 : ∀ b, b < 10 → eBecM 27 1 M (27+2) b = M (1+2) b := fun b hb => by rw [r _ (by decide)]; simp [mr, cBecM, nBecM, va_cpy, ms, hb]
  have a3 : ∀ b, b < 10 → eBecM 27 1 M (27+3) b = M (1+3) b := fun b hb => by rw [r _ (by decide)]; simp [mr, cBecM, nBecM, va_cpy, ms, hb]
  have a4 : ∀ b, b < 10 → eBecM 27 1 M (27+4) b = M (1+4) b := fun b hb => by rw [r _ (by decide)]; simp [mr, cBecM, nBecM, va_cpy, ms, hb]
  have a5 : ∀ b, b < 10 → eBecM 27 1 M (27+5) b = M (1+5) b := fun b hb => by rw [r _ (by decide)]; simp [mr, cBecM, nBecM, va_cpy, ms, hb]
  have a6 : ∀ b, b < 10 → eBecM 27 1 M (27+6) b = M (1+6) b := fun b hb => by rw [r _ (by decide)]; simp [mr, cBecM, nBecM, va_cpy, ms, hb]
  have a8 : ∀ b, b < 12 → eBecM 27 1 M (27+8) b = M (1+8) b := fun b hb => by rw [r _ (by decide)]; simp [mr, cBecM, nBecM, va_cpy, ms, hb]
  have a9 : ∀ b, b < 12 → eBecM 27 1 M (27+9) b = M (1+9) b := fun b hb => by rw [r _ (by decide)]; simp [mr, cBecM, nBecM, va_cpy, ms, hb]
  have a10 : ∀ b, b < 12 → eBecM 27 1 M (27+10) b = M (1+10) b := fun b hb => by rw [r _ (by decide)]; simp [mr, cBecM, nBecM, va_cpy, ms, hb]
  have a11 : ∀ b, b < 7 → eBecM 27 1 M (27+11) b = M (1+11) b := fun b hb => by rw [r _ (by decide)]; simp [mr, cBecM, nBecM, va_cpy, ms, hb]
  have a12 : ∀ b, b < 10 → eBecM 27 1 M (27+12) b = M (1+12) b := fun b hb => by rw [r _ (by decide)]; simp [mr, cBecM, nBecM, va_cpy, ms, hb]
  have b1 : eBecM 27 1 M (27+1) 5 = M (1+1) 5 := by rw [r _ (by decide)]; simp [mr, cBecM, nBecM, ms]
  have b7 : eBecM 27 1 M (27+7) 3 = M (1+7) 3 := by rw [r _ (by decide)]; simp [mr, cBecM, nBecM, ms]
  obtain ⟨⟨sb, s8, s11, sp⟩, ⟨c13, c9, c7, c6, c5, ccr, cq⟩, vd, v1, v7, v4, v10, v12, v14, vs⟩ := hV
  refine ⟨⟨fun b hb => CB_of ?_, by rw [s 8 (by decide) (by decide)]; exact s8, by rw [s 11 (by decide) (by decide)]; exact s11, sp⟩, ⟨by rw [s 13 (by decide) (by decide)]; exact c13, by rw [s 9 (by decide) (by decide)]; exact c9, by rw [s 7 (by decide) (by decide)]; exact c7, by rw [s 6 (by decide) (by decide)]; exact c6, by rw [s 5 (by decide) (by decide)]; exact c5, fun i hi => ?_, cq⟩, fun k hk => ?_, b1.trans v1, b7.trans v7, by rw [s 4 (by decide) (by decide)]; exact v4, by rw [s 10 (by decide) (by decide)]; exact v10, by rw [s 12 (by decide) (by decide)]; exact v12, by rw [s 14 (by decide) (by decide)]; exact v14, fun k hk => ?_⟩
  · rw [a2 b (by omega), a3 b (by omega), a4 b (by omega), a5 b (by omega), a6 b (by omega)]
    exact CB_col (sb b hb)
  · rw [a8 i (by omega), a9 i (by omega), a10 i (by omega)]
    exact ccr i hi
  · rw [a11 _ (Nat.mod_lt _ (by decide))]
    exact vd k hk
  · rw [a12 k hk]
    exact vs k hk
theorem bec_40_1 {c cc p m : Nat} (hc : c ≤ 10) (hcc : cc ≤ 12) {M R : Mem} (hV : RV 1 c cc p m M R) : RV 40 c cc p m (eBecM 40 1 M) R := by
  have s : ∀ j, 4 ≤ j → j ≤ 14 → eBecM 40 1 M 40 j = M 1 j := fun j h1 h2 => if_pos ⟨rfl, h1, h2⟩
  have r : ∀ a, a ≠ 40 → ∀ j, eBecM 40 1 M a j = mr (mr (cBecM 40 1 (nBecM 40 1 M)) (40+11) (va_cpy (M (1+11)) (M (40+11)) 0 0 7)) (40+12) (va_cpy (M (1+12)) (M (40+12)) 0 0 10) a j := fun a h j => if_neg (fun q => h q.1)
  have a2 : ∀ b, b < 10 → eBecM 40 1 M (40+2) b = M (1+2) b := fun b hb => by rw [r _ (by decide)]; simp [mr, cBecM, nBecM, va_cpy, ms, hb]
  have a3 : ∀ b, b < 10 → eBecM 40 1 M (40+3) b = M (1+3) b := fun b hb => by rw [r _ (by decide)]; simp [mr, cBecM, nBecM, va_cpy, ms, hb]
  have a4 : ∀ b, b < 10 → eBecM 40 1 M (40+4) b = M (1+4) b := fun b hb => by rw [r _ (by decide)]; simp [mr, cBecM, nBecM, va_cpy, ms, hb]
  have a5 : ∀ b, b < 10 → eBecM 40 1 M (40+5) b = M (1+5) b := fun b hb => by rw [r _ (by decide)]; simp [mr, cBecM, nBecM, va_cpy, ms, hb]
  have a6 : ∀ b, b < 10 → eBecM 40 1 M (40+6) b = M (1+6) b := fun b hb => by rw [r _ (by decide)]; simp [mr, cBecM, nBecM, va_cpy, ms, hb]
  have a8 : ∀ b, b < 12 → eBecM 40 1 M (40+8) b = M (1+8) b := fun b hb => by rw [r _ (by decide)]; simp [mr, cBecM, nBecM, va_cpy, ms, hb]
  have a9 : ∀ b, b < 12 → eBecM 40 1 M (40+9) b = M (1+9) b := fun b hb => by rw [r _ (by decide)]; simp [mr, cBecM, nBecM, va_cpy, ms, hb]
  have a10 : ∀ b, b < 12 → eBecM 40 1 M (40+10) b = M (1+10) b := fun b hb => by rw [r _ (by decide)]; simp [mr, cBecM, nBecM, va_cpy, ms, hb]
  have a11 : ∀ b, b < 7 → eBecM 40 1 M (40+11) b = M (1+11) b := fun b hb => by rw [r _ (by decide)]; simp [mr, cBecM, nBecM, va_cpy, ms, hb]
  have a12 : ∀ b, b < 10 → eBecM 40 1 M (40+12) b = M (1+12) b := fun b hb => by rw [r _ (by decide)]; simp [mr, cBecM, nBecM, va_cpy, ms, hb]
  have b1 : eBecM 40 1 M (40+1) 5 = M (1+1) 5 := by rw [r _ (by decide)]; simp [mr, cBecM, nBecM, ms]
  have b7 : eBecM 40 1 M (40+7) 3 = M (1+7) 3 := by rw [r _ (by decide)]; simp [mr, cBecM, nBecM, ms]
  obtain ⟨⟨sb, s8, s11, sp⟩, ⟨c13, c9, c7, c6, c5, ccr, cq⟩, vd, v1, v7, v4, v10, v12, v14, vs⟩ := hV
  refine ⟨⟨fun b hb => CB_of ?_, by rw [s 8 (by decide) (by decide)]; exact s8, by rw [s 11 (by decide) (by decide)]; exact s11, sp⟩, ⟨by rw [s 13 (by decide) (by decide)]; exact c13, by rw [s 9 (by decide) (by decide)]; exact c9, by rw [s 7 (by decide) (by decide)]; exact c7, by rw [s 6 (by decide) (by decide)]; exact c6, by rw [s 5 (by decide) (by decide)]; exact c5, fun i hi => ?_, cq⟩, fun k hk => ?_, b1.trans v1, b7.trans v7, by rw [s 4 (by decide) (by decide)]; exact v4, by rw [s 10 (by decide) (by decide)]; exact v10, by rw [s 12 (by decide) (by decide)]; exact v12, by rw [s 14 (by decide) (by decide)]; exact v14, fun k hk => ?_⟩
  · rw [a2 b (by omega), a3 b (by omega), a4 b (by omega), a5 b (by omega), a6 b (by omega)]
    exact CB_col (sb b hb)
  · rw [a8 i (by omega), a9 i (by omega), a10 i (by omega)]
    exact ccr i hi
  · rw [a11 _ (Nat.mod_lt _ (by decide))]
    exact vd k hk
  · rw [a12 k hk]
    exact vs k hk
theorem bec_27_40 {c cc p m : Nat} (hc : c ≤ 10) (hcc : cc ≤ 12) {M R : Mem} (hV : RV 40 c cc p m M R) : RV 27 c cc p m (eBecM 27 40 M) R := by
  have s : ∀ j, 4 ≤ j → j ≤ 14 → eBecM 27 40 M 27 j = M 40 j := fun j h1 h2 => if_pos ⟨rfl, h1, h2⟩
  have r : ∀ a, a ≠ 27 → ∀ j, eBecM 27 40 M a j = mr (mr (cBecM 27 40 (nBecM 27 40 M)) (27+11) (va_cpy (M (40+11)) (M (27+11)) 0 0 7)) (27+12) (va_cpy (M (40+12)) (M (27+12)) 0 0 10) a j := fun a h j => if_neg (fun q => h q.1)
  have a2 : ∀ b, b < 10 → eBecM 27 40 M (27+2) b = M (40+2) b := fun b hb => by rw [r _ (by decide)]; simp [mr, cBecM, nBecM, va_cpy, ms, hb]
  have a3 : ∀ b, b < 10 → eBecM 27 40 M (27+3) b = M (40+3) b := fun b hb => by rw [r _ (by decide)]; simp [mr, cBecM, nBecM, va_cpy, ms, hb]
  have a4 : ∀ b, b < 10 → eBecM 27 40 M (27+4) b = M (40+4) b := fun b hb => by rw [r _ (by decide)]; simp [mr, cBecM, nBecM, va_cpy, ms, hb]
  have a5 : ∀ b, b < 10 → eBecM 27 40 M (27+5) b = M (40+5) b := fun b hb => by rw [r _ (by decide)]; simp [mr, cBecM, nBecM, va_cpy, ms, hb]
  have a6 : ∀ b, b < 10 → eBecM 27 40 M (27+6) b = M (40+6) b := fun b hb => by rw [r _ (by decide)]; simp [mr, cBecM, nBecM, va_cpy, ms, hb]
  have a8 : ∀ b, b < 12 → eBecM 27 40 M (27+8) b = M (40+8) b := fun b hb => by rw [r _ (by decide)]; simp [mr, cBecM, nBecM, va_cpy, ms, hb]
  have a9 : ∀ b, b < 12 → eBecM 27 40 M (27+9) b = M (40+9) b := fun b hb => by rw [r _ (by decide)]; simp [mr, cBecM, nBecM, va_cpy, ms, hb]
  have a10 : ∀ b, b < 12 → eBecM 27 40 M (27+10) b = M (40+10) b := fun b hb => by rw [r _ (by decide)]; simp [mr, cBecM, nBecM, va_cpy, ms, hb]
  have a11 : ∀ b, b < 7 → eBecM 27 40 M (27+11) b = M (40+11) b := fun b hb => by rw [r _ (by decide)]; simp [mr, cBecM, nBecM, va_cpy, ms, hb]
  have a12 : ∀ b, b < 10 → eBecM 27 40 M (27+12) b = M (40+12) b := fun b hb => by rw [r _ (by decide)]; simp [mr, cBecM, nBecM, va_cpy, ms, hb]
  have b1 : eBecM 27 40 M (27+1) 5 = M (40+1) 5 := by rw [r _ (by decide)]; simp [mr, cBecM, nBecM, ms]
  have b7 : eBecM 27 40 M (27+7) 3 = M (40+7) 3 := by rw [r _ (by decide)]; simp [mr, cBecM, nBecM, ms]
  obtain ⟨⟨sb, s8, s11, sp⟩, ⟨c13, c9, c7, c6, c5, ccr, cq⟩, vd, v1, v7, v4, v10, v12, v14, vs⟩ := hV
  refine ⟨⟨fun b hb => CB_of ?_, by rw [s 8 (by decide) (by decide)]; exact s8, by rw [s 11 (by decide) (by decide)]; exact s11, sp⟩, ⟨by rw [s 13 (by decide) (by decide)]; exact c13, by rw [s 9 (by decide) (by decide)]; exact c9, by rw [s 7 (by decide) (by decide)]; exact c7, by rw [s 6 (by decide) (by decide)]; exact c6, by rw [s 5 (by decide) (by decide)]; exact c5, fun i hi => ?_, cq⟩, fun k hk => ?_, b1.trans v1, b7.trans v7, by rw [s 4 (by decide) (by decide)]; exact v4, by rw [s 10 (by decide) (by decide)]; exact v10, by rw [s 12 (by decide) (by decide)]; exact v12, by rw [s 14 (by decide) (by decide)]; exact v14, fun k hk => ?_⟩
  · rw [a2 b (by omega), a3 b (by omega), a4 b (by omega), a5 b (by omega), a6 b (by omega)]
    exact CB_col (sb b hb)
  · rw [a8 i (by omega), a9 i (by omega), a10 i (by omega)]
    exact ccr i hi
  · rw [a11 _ (Nat.mod_lt _ (by decide))]
    exact vd k hk
  · rw [a12 k hk]
    exact vs k hk
theorem bec_k {e f a : Nat} {M : Mem} (h : a < e ∨ e + 13 ≤ a) : eBecM e f M a = M a := by
  have h0 : a ≠ e := by omega
  have e1 : eBecM e f M a = mr (mr (cBecM e f (nBecM e f M)) (e+11) (va_cpy (M (f+11)) (M (e+11)) 0 0 7)) (e+12) (va_cpy (M (f+12)) (M (e+12)) 0 0 10) a := by
    funext j
    exact if_neg (fun q => h0 q.1)
  rw [e1, mr_k (by omega), mr_k (by omega), cBecM, mr_k (by omega), mr_k (by omega), mr_k (by omega), ms_k (by omega), nBecM, mr_k (by omega), mr_k (by omega), mr_k (by omega), mr_k (by omega), mr_k (by omega), ms_k (by omega)]
