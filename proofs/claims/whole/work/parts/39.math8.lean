/-! Many minutes in both -/
theorem pass_rel {e c cc p : Nat} (hc : c ≤ 10) : ∀ (n m A : Nat) (M R : Mem), A + n < 100000 → RV e c cc p m M R → BR c cc A m R → RV e c cc p (m + n) (passG e c cc p n m M) (mGo c cc n m R) ∧ BR c cc (A + n) (m + n) (mGo c cc n m R) := by
  intro n
  induction n with
  | zero => intro m A M R hA hV hB; exact ⟨hV, hB⟩
  | succ n ih =>
    intro m A M R hA hV hB
    obtain ⟨h1, h2⟩ := minute_rel hc (by omega) hV hB
    have h := ih (m + 1) (A + 1) _ _ (by omega) h1 h2
    rw [show m + (n + 1) = m + 1 + n by omega, show A + (n + 1) = A + 1 + n by omega]
    exact h
theorem minM_k {e c cc p m a : Nat} {M : Mem} (h : a < e ∨ e + 13 ≤ a) : minM e c cc p m M a = M a := by
  rw [minM, ms_k (by omega), m4M_k (by omega) (by omega) (by omega) (by omega) (by omega), m1M_k (by omega) (by omega)]
theorem pass_k {e c cc p a : Nat} (h : a < e ∨ e + 13 ≤ a) : ∀ (n m : Nat) (M : Mem), passG e c cc p n m M a = M a := by
  intro n
  induction n with
  | zero => intro m M; rfl
  | succ n ih => intro m M; simp only [passG]; rw [ih, minM_k h]
theorem RV_WE {e c cc p m A : Nat} {M R : Mem} (hV : RV e c cc p m M R) (hB : BR c cc A m R) : WE e c cc p m M := by
  obtain ⟨⟨sb, s8, s11, sp⟩, ⟨c13, c9, c7, c6, c5, ccr, cq⟩, vd, v1, v7, v4, v10, v12, v14, vs⟩ := hV
  obtain ⟨⟨w1, w2, w0, ⟨h, h20, hh⟩, wd, wq⟩, -, -⟩ := hB
  refine ⟨v1, v7, c5.trans sp, c7.trans w0, ⟨h, h20, v4.trans hh⟩, fun k hk => ?_⟩
  obtain ⟨d, hd, e1⟩ := wd ((k + 7 - m % 7) % 7) (by omega)
  refine ⟨d, hd, ?_⟩
  have := vd ((k + 7 - m % 7) % 7) (by omega)
  rw [show (m + (k + 7 - m % 7) % 7) % 7 = k by omega] at this
  exact this.trans e1
/-- the coin of n minutes -/
theorem pass_coin {e c cc p m A n : Nat} (hc : c ≤ 10) {M R : Mem} (hA : A + n < 100000) (hV : RV e c cc p m M R) (hB : BR c cc A m R) : passG e c cc p n m M e 8 = mGo c cc n m R 63 7 := (pass_rel hc n m A M R hA hV hB).1.1.2.1
theorem RV_R {e c cc p m : Nat} {M R R' : Mem} (h : R' 63 = R 63) (hV : RV e c cc p m M R) : RV e c cc p m M R' := by
  have hcb : ∀ b d, CB e M R b d → CB e M R' b d := fun b d z => by unfold CB; rw [h]; exact z
  obtain ⟨⟨sb, s8, s11, sp⟩, cr, vd, v1, v7, v4, v10, v12, v14, vs⟩ := hV
  unfold RV SR CRr RVd
  rw [h]
  exact ⟨⟨fun b hb => hcb b _ (sb b hb), s8, s11, sp⟩, cr, vd, v1, v7, v4, v10, v12, v14, vs⟩
