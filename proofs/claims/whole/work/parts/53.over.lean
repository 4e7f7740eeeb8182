/-! The reference's functions over a memory whose cells below 62 are another's -/
def ov (M X : Mem) : Mem := fun k => if k < 62 then X k else M k
theorem ov_hi {M X : Mem} {k : Nat} (h : 62 ≤ k) : ov M X k = M k := if_neg (by omega)
theorem ov_lo {M X : Mem} {k : Nat} (h : k < 62) : ov M X k = X k := if_pos h
theorem ov_ms {M X : Mem} {k j : Nat} {v : Int32} (h : 62 ≤ k) : ms (ov M X) k j v = ov (ms M k j v) X := by
  funext a b
  by_cases q : a < 62
  · rw [ms_k (by omega), ov_lo q, ov_lo q]
  · rw [ov_hi (M := ms M k j v) (by omega)]
    by_cases z : a = k
    · subst z
      by_cases y : b = j
      · subst y; rw [ms_s, ms_s]
      · rw [ms_j y, ms_j y, ov_hi (by omega)]
    · rw [ms_k z, ms_k z, ov_hi (by omega)]
theorem ov_of {M X : Mem} (h : ∀ k, 62 ≤ k → X k = M k) : X = ov M X := by
  funext k
  unfold ov
  by_cases q : k < 62
  · rw [if_pos q]
  · rw [if_neg q, h k (by omega)]
theorem ov_ov {M X Y : Mem} : ov (ov M X) Y = ov M Y := by
  funext k
  unfold ov
  by_cases q : k < 62
  · rw [if_pos q, if_pos q]
  · rw [if_neg q, if_neg q, if_neg q]
theorem ov_fdM {w : Nat} {M X : Mem} : fdM w (ov M X) = ov (fdM w M) X := by
  unfold fdM
  simp (disch := decide) only [ov_hi, ov_ms]
theorem ov_col {M X : Mem} {w : Nat} : col (ov M X) w = col M w := by
  funext b
  unfold col
  rw [ov_hi (by decide)]
theorem ov_cco {M X : Mem} {w : Nat} : cco (ov M X) w = cco M w := by
  funext b
  unfold cco
  rw [ov_hi (by decide)]
theorem ov_dueC {M X : Mem} : dueC (ov M X) = dueC M := by
  funext b
  unfold dueC
  rw [ov_hi (by decide)]
theorem ov_spF {M X : Mem} : spF (ov M X) = spF M := by
  funext b
  unfold spF
  rw [ov_hi (by decide)]
theorem ov_rowG {a b : Nat} (ha : 62 ≤ a) (hb : 62 ≤ b) {X : Mem} : ∀ (n i : Nat) (M : Mem), rowG a b n i (ov M X) = ov (rowG a b n i M) X := by
  intro n
  induction n with
  | zero => intro i M; rfl
  | succ n ih =>
    intro i M
    simp only [rowG]
    rw [ov_hi hb, ov_ms ha]
    exact ih _ _
theorem ov_SV {M X : Mem} : SV (ov M X) = ov (SV M) X := ov_rowG (by decide) (by decide) _ _ _
theorem ov_mNewM {c : Nat} {k r p : Int32} {M X : Mem} : mNewM c k r p (ov M X) = ov (mNewM c k r p M) X := by
  unfold mNewM
  simp (disch := decide) only [ov_hi, ov_ms]
theorem ov_mNewC {c : Nat} {a b d : Int32} {M X : Mem} : mNewC c a b d (ov M X) = ov (mNewC c a b d M) X := by
  unfold mNewC
  simp (disch := decide) only [ov_hi, ov_ms]
theorem ov_mGoesM {b : Nat} {M X : Mem} : mGoesM b (ov M X) = ov (mGoesM b M) X := by
  unfold mGoesM
  simp (disch := decide) only [ov_hi, ov_ms]
theorem ov_mPutM {b : Nat} {p : Int32} {M X : Mem} : mPutM b p (ov M X) = ov (mPutM b p M) X := by
  unfold mPutM
  try simp (disch := decide) only [ov_hi, ov_ms, ov_mGoesM]
  (repeat' split) <;> rfl
theorem ov_mWalkM {t : Int32} {M X : Mem} : mWalkM t (ov M X) = ov (mWalkM t M) X := by
  unfold mWalkM
  simp (disch := decide) only [ov_hi, ov_ms]
theorem ov_mDrawM {M X : Mem} : mDrawM  (ov M X) = ov (mDrawM  M) X := by
  unfold mDrawM
  simp (disch := decide) only [ov_hi, ov_ms]
theorem ov_shG {X : Mem} : ∀ (n : Nat) (i : Nat) (M : Mem), shG n i (ov M X) = ov (shG n i M) X := by
  intro n
  induction n with
  | zero => intro i M; rfl
  | succ n ih =>
    intro i M
    simp only [shG]
    try simp (disch := decide) only [ov_hi, ov_ms]
    exact ih _ _
theorem ov_mWarmM {m h d : Nat} {M X : Mem} : mWarmM m h d (ov M X) = ov (mWarmM m h d M) X := by
  unfold mWarmM
  rw [ov_shG, ov_ms (by decide), ov_ms (by decide)]
theorem ov_rr {h b : Nat} {M X : Mem} : rr h b (ov M X) = rr h b M := by
  unfold rr
  simp (disch := decide) only [ov_hi, ov_ms]
theorem ov_mr1 {h b : Nat} {M X : Mem} : mr1 h b (ov M X) = ov (mr1 h b M) X := by
  unfold mr1
  simp (disch := decide) only [ov_hi, ov_ms, ov_rr]
theorem ov_mRoStep {h b : Nat} {M X : Mem} : mRoStep h b (ov M X) = ov (mRoStep h b M) X := by
  unfold mRoStep
  try simp (disch := decide) only [ov_hi, ov_ms, ov_rr, ov_mr1, ov_mGoesM]
  (repeat' split) <;> rfl
theorem ov_mRoG {h : Nat} {X : Mem} : ∀ (n : Nat) (i : Nat) (M : Mem), mRoG h n i (ov M X) = ov (mRoG h n i M) X := by
  intro n
  induction n with
  | zero => intro i M; rfl
  | succ n ih =>
    intro i M
    simp only [mRoG]
    try simp (disch := decide) only [ov_hi, ov_ms, ov_mRoStep]
    exact ih _ _
theorem ov_bo1 {c : Nat} {M X : Mem} : bo1 c (ov M X) = bo1 c M := by
  unfold bo1
  simp (disch := decide) only [ov_hi, ov_ms, ov_col]
theorem ov_bo2 {c : Nat} {M X : Mem} : bo2 c (ov M X) = bo2 c M := by
  unfold bo2
  simp (disch := decide) only [ov_hi, ov_ms, ov_col]
theorem ov_mTake {b : Nat} {v : Int32} {M X : Mem} : mTake b v (ov M X) = ov (mTake b v M) X := by
  unfold mTake
  simp (disch := decide) only [ov_hi, ov_ms]
theorem ov_buyG {c : Nat} {X : Mem} : ∀ (n : Nat) (M : Mem), buyG c n (ov M X) = ov (buyG c n M) X := by
  intro n
  induction n with
  | zero => intro M; rfl
  | succ n ih =>
    intro M
    rcases a1 : bo1 c M with _ | b
    · rcases a2 : bo2 c M with _ | b
      · simp only [buyG, ov_bo1, ov_bo2, a1, a2]
        rw [ov_hi (by decide), ov_ms (by decide)]
      · simp only [buyG, ov_bo1, ov_bo2, a1, a2]
        rw [ov_hi (by decide), ov_mTake]
        exact ih _
    · simp only [buyG, ov_bo1, a1]
      rw [ov_hi (by decide), ov_mTake]
      exact ih _
theorem ov_comeN {i : Nat} {M X : Mem} : comeN i (ov M X) = comeN i M := by
  unfold comeN
  simp (disch := decide) only [ov_hi, ov_ms]
theorem ov_mserG {c : Nat} {X : Mem} : ∀ (n i : Nat) (M : Mem), mserG c n i (ov M X) = ov (mserG c n i M) X := by
  intro n
  induction n with
  | zero => intro i M; rfl
  | succ n ih =>
    intro i M
    simp only [mserG]
    rw [ov_hi (by decide), ov_comeN, ov_buyG]
    split
    · exact ih _ _
    · exact ih _ _
theorem ov_x1M {m : Nat} {M X : Mem} : x1M m (ov M X) = ov (x1M m M) X := by
  unfold x1M
  rw [ov_hi (by decide), ov_mWarmM]
theorem ov_x2M {c m : Nat} {M X : Mem} : x2M c m (ov M X) = ov (x2M c m M) X := by
  unfold x2M
  rw [ov_x1M, ov_hi (by decide), ov_mRoG]
theorem ov_x3M {c cc m : Nat} {M X : Mem} : x3M c cc m (ov M X) = ov (x3M c cc m M) X := by
  unfold x3M
  rw [ov_x2M, ov_hi (by decide), ov_mserG, ov_ms (by decide)]
  split <;> rfl
theorem ov_mMin {c cc m : Nat} {M X : Mem} : mMin c cc m (ov M X) = ov (mMin c cc m M) X := by
  unfold mMin
  rw [ov_x3M, ov_ms (by decide)]
theorem ov_mGo {c cc : Nat} {X : Mem} : ∀ (n m : Nat) (M : Mem), mGo c cc n m (ov M X) = ov (mGo c cc n m M) X := by
  intro n
  induction n with
  | zero => intro m M; rfl
  | succ n ih => intro m M; simp only [mGo]; rw [ov_mMin]; exact ih _ _
theorem ov_cnF {c cc n m : Nat} {M' M X Y : Mem} : cnF c cc n m (ov M' X) (ov M Y) = cnF c cc n m M' M := by
  unfold cnF
  rw [ov_mGo, ov_hi (by decide), ov_hi (by decide)]
theorem ov_prF {c cc k m : Nat} {M X : Mem} : prF c cc k m (ov M X) = prF c cc k m M := by
  funext p
  unfold prF
  rw [ov_SV, ov_ms (by decide), ov_cnF]
theorem ov_shF {c cc k m : Nat} {M X : Mem} : shF c cc k m (ov M X) = shF c cc k m M := by
  funext p
  unfold shF
  rw [ov_SV, ov_hi (by decide), ov_ms (by decide), ov_cnF]
theorem ov_coF {c cc k m : Nat} {M X : Mem} : coF c cc k m (ov M X) = coF c cc k m M := by
  funext p
  unfold coF
  rw [ov_SV, ov_mWalkM, ov_cnF]
theorem ov_kdF {c cc k m b : Nat} {M X : Mem} : kdF c cc k m b (ov M X) = kdF c cc k m b M := by
  funext p
  unfold kdF
  rw [ov_SV, ov_ms (by decide), ov_cnF]
theorem ov_twM {c cc k m i : Nat} {M X : Mem} : twM c cc k m i (ov M X) = ov (twM c cc k m i M) X := by
  unfold twM
  rw [ov_SV, ov_mWalkM, ov_mGo, ov_hi (by decide), ov_mWalkM]
  split <;> rfl
theorem ov_twF {c cc k n m : Nat} {M X : Mem} : twF c cc k n m (ov M X) = twF c cc k n m M := by
  funext i
  unfold twF
  rw [ov_twM, ov_cnF]
theorem ov_tkM {c cc k m b i : Nat} {M X : Mem} : tkM c cc k m b i (ov M X) = ov (tkM c cc k m b i M) X := by
  unfold tkM
  rw [ov_SV, ov_mGo, ov_hi (by decide), ov_mPutM]
  split <;> rfl
theorem ov_tkF {c cc k m b : Nat} {M X : Mem} : tkF c cc k m b (ov M X) = tkF c cc k m b M := by
  funext i
  unfold tkF
  rw [ov_tkM, ov_cnF]
theorem ov_brF {c cc k m : Nat} {M X : Mem} : brF c cc k m (ov M X) = brF c cc k m M := by
  funext i
  unfold brF
  rw [ov_SV, ov_ms (by decide), ov_cnF, ov_cnF]
theorem ov_beP {o : Option Nat} {M X : Mem} : beP o (ov M X) = ((beP o M).1, ov (beP o M).2 X) := by
  cases o with
  | none => unfold beP; rw [ov_fdM]
  | some j => rfl
theorem ov_dnP {k : Int32} {M X : Mem} : dnP k (ov M X) = ((dnP k M).1, ov (dnP k M).2 X) := by
  unfold dnP
  rw [ov_fdM]
  split <;> rfl
theorem ov_poR {k : Int32} {M X : Mem} : poR k (ov M X) = ((poR k M).1, ov (poR k M).2 X) := by
  unfold poR
  rw [ov_fdM]
  split <;> rfl
theorem ov_ahF {c cc n m : Nat} {w : Int32} {M G X Y : Mem} : ahF c cc n m w (ov M X) (ov G Y) = ahF c cc n m w M G := by
  unfold ahF
  simp (disch := decide) only [ov_hi, ov_col]
theorem ov_rdG {c cc b : Nat} {X : Mem} : ∀ (n i m : Nat) (M : Mem), rdG c cc b n i m (ov M X) = ((rdG c cc b n i m M).1, ov (rdG c cc b n i m M).2 X) := by
  intro n
  induction n with
  | zero => intro i m M; rfl
  | succ n ih =>
    intro i m M
    simp only [rdG]
    rw [ov_hi (by decide), ov_mMin]
    split
    · rfl
    · exact ih _ _ _
theorem ov_buG {c cc b : Nat} {X : Mem} : ∀ (n i m : Nat) (M : Mem), buG c cc b n i m (ov M X) = ((buG c cc b n i m M).1, ov (buG c cc b n i m M).2 X) := by
  intro n
  induction n with
  | zero => intro i m M; rfl
  | succ n ih =>
    intro i m M
    simp only [buG]
    rw [ov_hi (by decide), ov_mMin]
    split
    · rfl
    · exact ih _ _ _
theorem ov_poT {c cc b m w : Nat} {mm : Int32} {M X : Mem} : poT c cc b m w mm (ov M X) = poT c cc b m w mm M := by
  unfold poT
  rw [ov_SV, ov_mGo, ov_col, ov_mPutM, ov_rdG]
theorem ov_poG {c cc b m : Nat} {mm : Int32} {M X : Mem} : ∀ n, poG c cc b m mm (ov M X) n = poG c cc b m mm M n := by
  intro n
  induction n with
  | zero => rfl
  | succ n ih => simp only [poG]; rw [ov_poT, ih]
theorem ov_hiG {c cc b : Nat} {X : Mem} : ∀ (n m : Nat) (ok : Bool) (M : Mem), hiG c cc b n m ok (ov M X) = ((hiG c cc b n m ok M).1, ov (hiG c cc b n m ok M).2 X) := by
  intro n
  induction n with
  | zero => intro m ok M; rfl
  | succ n ih =>
    intro m ok M
    cases ok with
    | true => rfl
    | false => simp only [hiG]; rw [ov_mMin, ov_hi (by decide)]; exact ih _ _ _
theorem ov_hoT {c cc b k m h : Nat} {M X : Mem} : hoT c cc b k m h (ov M X) = ((hoT c cc b k m h M).1, ov (hoT c cc b k m h M).2 X) := by
  unfold hoT
  rw [ov_SV, ov_ms (by decide), ov_hi (by decide), ov_hiG]
theorem ov_hoG {c cc b k m : Nat} {M X : Mem} : ∀ n h, hoG c cc b k m (ov M X) n h = hoG c cc b k m M n h := by
  intro n
  induction n with
  | zero => intro h; rfl
  | succ n ih => intro h; simp only [hoG]; rw [ov_hoT, ih]
theorem ov_itsI {b : Nat} {w : Int32} {M X : Mem} : itsI b w (ov M X) = itsI b w M := by
  unfold itsI
  rw [ov_hi (by decide)]
theorem ov_zerG {s : Nat} {X : Mem} : ∀ (n i : Nat) (M : Mem), zerG s n i (ov M X) = ov (zerG s n i M) X := by
  intro n
  induction n with
  | zero => intro i M; rfl
  | succ n ih => intro i M; simp only [zerG]; rw [ov_ms (by decide)]; exact ih _ _
theorem ov_sz1 {s : Nat} {bits n : Int32} {M X : Mem} : sz1 s bits n (ov M X) = ov (sz1 s bits n M) X := by
  unfold sz1
  rw [ov_ms (by decide), ov_ms (by decide)]
theorem ov_feedG {x : Int32} {X : Mem} : ∀ (k t : Nat) (M : Mem), feedG x k t (ov M X) = ov (feedG x k t M) X := by
  intro k
  induction k with
  | zero => intro t M; rfl
  | succ k ih => intro t M; simp only [feedG]; rw [ov_ms (by decide), ov_ms (by decide)]; exact ih _ _
theorem ov_loadG {s z c : Nat} {X : Mem} : ∀ (n i : Nat) (M : Mem), loadG s z c n i (ov M X) = ((loadG s z c n i M).1, ov (loadG s z c n i M).2 X) := by
  intro n
  induction n with
  | zero => intro i M; rfl
  | succ n ih =>
    intro i M
    simp only [loadG]
    rw [ov_hi (by decide), ov_ms (by decide)]
    split
    · exact ih _ _
    · rfl
theorem ov_mvG {s f : Nat} {X : Mem} : ∀ (n i : Nat) (M : Mem), mvG s f n i (ov M X) = ov (mvG s f n i M) X := by
  intro n
  induction n with
  | zero => intro i M; rfl
  | succ n ih => intro i M; simp only [mvG]; rw [ov_hi (by decide), ov_ms (by decide)]; exact ih _ _
theorem ov_bkG {s f : Nat} {X : Mem} : ∀ (n i : Nat) (M : Mem), bkG s f n i (ov M X) = ov (bkG s f n i M) X := by
  intro n
  induction n with
  | zero => intro i M; rfl
  | succ n ih => intro i M; simp only [bkG]; rw [ov_hi (by decide), ov_ms (by decide)]; exact ih _ _
theorem ov_cpyP {x f y g n : Int32} {M X : Mem} : cpyP x f y g n (ov M X) = cpyP x f y g n M := by
  unfold cpyP
  rw [ov_hi (by decide)]
theorem ov_boyP {c : Nat} {M X : Mem} : boyP c (ov M X) = boyP c M := by
  unfold boyP
  rw [ov_hi (by decide)]
theorem ov_boyM {c : Nat} {M X : Mem} : boyM c (ov M X) = ((boyM c M).1, ov (boyM c M).2 X) := by
  unfold boyM
  rw [ov_boyP, ov_hi (by decide), ov_mDrawM, ov_ms (by decide)]
  split <;> rfl
theorem ov_boyG {c : Nat} {X : Mem} : ∀ (n : Nat) (s : Int32) (M : Mem), boyG c n s (ov M X) = ((boyG c n s M).1, ov (boyG c n s M).2 X) := by
  intro n
  induction n with
  | zero => intro s M; rfl
  | succ n ih => intro s M; simp only [boyG]; rw [ov_boyM]; exact ih _ _
theorem ov_juG {s c cc : Nat} {X : Mem} : ∀ (n i m : Nat) (M : Mem), juG s c cc n i m (ov M X) = juG s c cc n i m M := by
  intro n
  induction n with
  | zero => intro i m M; rfl
  | succ n ih =>
    intro i m M
    simp only [juG]
    rw [ov_mMin, ov_hi (by decide), ov_hi (by decide), ov_hi (by decide), ih]
/-! the text -/
theorem ov_tokM {t : Nat} {M X : Mem} : tokM t (ov M X) = ov (tokM t M) X := by
  unfold tokM
  rw [ov_hi (by decide), ov_hi (by decide), ov_ms (by decide), ov_ms (by decide)]
theorem ov_needM {t : Nat} {b : Bool} {M X : Mem} : needM t b (ov M X) = ov (needM t b M) X := by
  unfold needM
  rw [ov_hi (by decide), ov_tokM, ov_ms (by decide)]
  split <;> rfl
theorem ov_wdF {t : Nat} {M X : Mem} : wdF t (ov M X) = wdF t M := by
  unfold wdF
  simp (disch := decide) only [ov_hi]
theorem ov_nuF {t : Nat} {M X : Mem} : nuF t (ov M X) = nuF t M := by
  unfold nuF
  simp (disch := decide) only [ov_hi]
theorem ov_numM {t : Nat} {h : Int} {M X : Mem} : numM t h (ov M X) = ov (numM t h M) X := by
  unfold numM
  rw [ov_nuF, ov_hi (by decide), ov_hi (by decide), ov_ms (by decide), ov_needM]
  split <;> rfl
theorem ov_peM {t : Nat} {b : Bool} {h : Int} {M X : Mem} : peM t b h (ov M X) = ov (peM t b h M) X := by
  unfold peM
  rw [ov_needM, ov_numM]
  split <;> rfl
theorem ov_peV {t : Nat} {b : Bool} {h : Int} {d : Int32} {M X : Mem} : peV t b h d (ov M X) = peV t b h d M := by
  unfold peV
  rw [ov_needM, ov_numM, ov_hi (by decide)]
theorem ov_roB {c : Nat} {p : Int32} {M X : Mem} : roB c p (ov M X) = roB c p M := by
  unfold roB
  rw [ov_col]
theorem ov_ba1 {t c : Nat} {M X : Mem} : ba1 t c (ov M X) = ov (ba1 t c M) X := ov_needM
theorem ov_baB {t : Nat} {M X : Mem} : baB t (ov M X) = baB t M := by
  unfold baB
  rw [ov_wdF]
theorem ov_ba3 {t c : Nat} {M X : Mem} : ba3 t c (ov M X) = ov (ba3 t c M) X := by
  unfold ba3
  rw [ov_wdF, ov_roB, ov_needM]
  split <;> rfl
theorem ov_ba4 {c : Nat} {k v p : Int32} {M X : Mem} : ba4 c k v p (ov M X) = ov (ba4 c k v p M) X := by
  unfold ba4
  rw [ov_hi (by decide), ov_mNewM]
  split <;> rfl
theorem ov_baM {t c : Nat} {k : Int32} {M X : Mem} : baM t c k (ov M X) = ov (baM t c k M) X := by
  unfold baM
  rw [ov_ba1, ov_baB, ov_peV, ov_peM, ov_wdF, ov_ba3, ov_ba4]
theorem ov_cr6 {cc : Nat} {v1 v2 : Int32} {M X : Mem} : cr6 cc v1 v2 (ov M X) = ov (cr6 cc v1 v2 M) X := by
  unfold cr6
  rw [ov_hi (by decide), ov_mNewC]
  split <;> rfl
theorem ov_cr5 {t cc : Nat} {v1 v2 : Int32} {M X : Mem} : cr5 t cc v1 v2 (ov M X) = ov (cr5 t cc v1 v2 M) X := by
  unfold cr5
  rw [ov_numM, ov_cr6]
theorem ov_cr4 {t cc : Nat} {v1 : Int32} {M X : Mem} : cr4 t cc v1 (ov M X) = ov (cr4 t cc v1 M) X := by
  unfold cr4
  rw [ov_numM, ov_hi (by decide), ov_wdF, ov_needM, ov_cr5]
theorem ov_cr3 {t cc : Nat} {M X : Mem} : cr3 t cc (ov M X) = ov (cr3 t cc M) X := by
  unfold cr3
  rw [ov_numM, ov_hi (by decide), ov_wdF, ov_needM, ov_cr4]
theorem ov_crM {t cc : Nat} {M X : Mem} : crM t cc (ov M X) = ov (crM t cc M) X := by
  unfold crM
  rw [ov_needM, ov_cr3]
theorem ov_ruM {t j : Nat} {h : Int} {M X : Mem} : ruM t j h (ov M X) = ov (ruM t j h M) X := by
  unfold ruM
  rw [ov_peM, ov_peV, ov_hi (by decide), ov_ms (by decide)]
  split <;> rfl
theorem ov_itM {t : Nat} {M X : Mem} : itM t (ov M X) = ov (itM t M) X := by
  unfold itM
  simp (disch := decide) only [ov_wdF, ov_hi, ov_baM, ov_crM, ov_ruM, ov_needM]
  (repeat' split) <;> rfl
theorem ov_frm {M X : Mem} : frm (ov M X) = frm M := by
  unfold frm
  rw [ov_hi (by decide)]
theorem ov_txG {t : Nat} {X : Mem} : ∀ (n i : Nat) (M : Mem), txG t n i (ov M X) = ((txG t n i M).1, ov (txG t n i M).2 X) := by
  intro n
  induction n with
  | zero => intro i M; rfl
  | succ n ih =>
    intro i M
    simp only [txG]
    rw [ov_hi (by decide), ov_hi (by decide), ov_frm, ov_needM, ov_itM]
    split
    · exact ih _ _
    · rfl
theorem ov_txE {i : Nat} {M X : Mem} : txE i (ov M X) = ((txE i M).1, ov (txE i M).2 X) := by
  unfold txE
  rw [ov_hi (by decide), ov_ms (by decide), ov_rowG (by decide) (by decide)]
  split <;> rfl
theorem ov_tx0 {t : Nat} {M X : Mem} : tx0 t (ov M X) = ov (tx0 t M) X := by
  unfold tx0
  rw [ov_SV, ov_ms (by decide), ov_ms (by decide), ov_tokM, ov_itM]
theorem ov_txR {t : Nat} {M X : Mem} : txR t (ov M X) = ((txR t M).1, ov (txR t M).2 X) := by
  unfold txR
  rw [ov_tx0, ov_txG, ov_txE]
theorem ov_pBest {c cc m : Nat} {n : Int32} {M X : Mem} : pBest c cc m n (ov M X) = ((pBest c cc m n M).1, ov (pBest c cc m n M).2 X) := by
  unfold pBest
  rw [ov_fdM, ov_fdM, ov_brF, ov_SV]
  by_cases h1 : ¬ rng 1 120 n = true
  · rw [if_pos h1, if_pos h1]
  · rw [if_neg h1, if_neg h1]
    by_cases h2 : 999 < m + n.toNatClampNeg
    · rw [if_pos h2, if_pos h2]
    · rw [if_neg h2, if_neg h2]
      by_cases h3 : cc = 0
      · rw [if_pos h3, if_pos h3, ov_beP]
      · rw [if_neg h3, if_neg h3, ov_beP]
theorem ov_pUndo {c : Nat} {M X : Mem} : pUndo c (ov M X) = ((pUndo c M).1, ov (pUndo c M).2 X) := by
  unfold pUndo
  rw [ov_hi (k := 62) (by decide), ov_fdM, ov_rowG (by decide) (by decide), ov_hi (k := 63) (by decide)]
  by_cases h : M 62 4 = 0
  · rw [if_pos h, if_pos h]
  · rw [if_neg h, if_neg h]
theorem ov_pImage {c : Nat} {M X : Mem} : pImage c (ov M X) = ((pImage c M).1, ov (pImage c M).2 X) := by
  unfold pImage
  rw [ov_rowG (by decide) (by decide), ov_ms (by decide)]
theorem ov_pBatch {c : Nat} {k : Int32} {M X : Mem} : pBatch c k (ov M X) = ((pBatch c k M).1, ov (pBatch c k M).2 X) := by
  unfold pBatch
  try simp (disch := decide) only [ov_hi, ov_ms, ov_fdM, ov_col, ov_cco, ov_dueC, ov_spF, ov_SV, ov_mNewM, ov_mNewC, ov_mPutM, ov_mWalkM, ov_mGo, ov_cnF, ov_prF, ov_shF, ov_coF, ov_kdF, ov_twF, ov_tkF, ov_brF, ov_beP, ov_dnP, ov_poR, ov_ahF, ov_rdG, ov_buG, ov_poG, ov_hoG, ov_itsI, ov_zerG, ov_sz1, ov_feedG, ov_loadG, ov_mvG, ov_bkG, ov_cpyP, ov_boyG, ov_juG]
  try rw [ov_rowG (by decide) (by decide)]
  try simp (disch := decide) only [ov_hi, ov_ms]
  all_goals ((repeat' split) <;> rfl)
theorem ov_pOf {c : Nat} {x w : Int32} {M X : Mem} : pOf c x w (ov M X) = ((pOf c x w M).1, ov (pOf c x w M).2 X) := by
  unfold pOf
  try simp (disch := decide) only [ov_hi, ov_ms, ov_fdM, ov_col, ov_cco, ov_dueC, ov_spF, ov_SV, ov_mNewM, ov_mNewC, ov_mPutM, ov_mWalkM, ov_mGo, ov_cnF, ov_prF, ov_shF, ov_coF, ov_kdF, ov_twF, ov_tkF, ov_brF, ov_beP, ov_dnP, ov_poR, ov_ahF, ov_rdG, ov_buG, ov_poG, ov_hoG, ov_itsI, ov_zerG, ov_sz1, ov_feedG, ov_loadG, ov_mvG, ov_bkG, ov_cpyP, ov_boyG, ov_juG]
  try rw [ov_rowG (by decide) (by decide)]
  try simp (disch := decide) only [ov_hi, ov_ms]
  all_goals ((repeat' split) <;> rfl)
theorem ov_pChange {c : Nat} {x w v : Int32} {M X : Mem} : pChange c x w v (ov M X) = ((pChange c x w v M).1, ov (pChange c x w v M).2 X) := by
  unfold pChange
  try simp (disch := decide) only [ov_hi, ov_ms, ov_fdM, ov_col, ov_cco, ov_dueC, ov_spF, ov_SV, ov_mNewM, ov_mNewC, ov_mPutM, ov_mWalkM, ov_mGo, ov_cnF, ov_prF, ov_shF, ov_coF, ov_kdF, ov_twF, ov_tkF, ov_brF, ov_beP, ov_dnP, ov_poR, ov_ahF, ov_rdG, ov_buG, ov_poG, ov_hoG, ov_itsI, ov_zerG, ov_sz1, ov_feedG, ov_loadG, ov_mvG, ov_bkG, ov_cpyP, ov_boyG, ov_juG]
  try rw [ov_rowG (by decide) (by decide)]
  try simp (disch := decide) only [ov_hi, ov_ms]
  all_goals ((repeat' split) <;> rfl)
theorem ov_pPut {c : Nat} {x p : Int32} {M X : Mem} : pPut c x p (ov M X) = ((pPut c x p M).1, ov (pPut c x p M).2 X) := by
  unfold pPut
  try simp (disch := decide) only [ov_hi, ov_ms, ov_fdM, ov_col, ov_cco, ov_dueC, ov_spF, ov_SV, ov_mNewM, ov_mNewC, ov_mPutM, ov_mWalkM, ov_mGo, ov_cnF, ov_prF, ov_shF, ov_coF, ov_kdF, ov_twF, ov_tkF, ov_brF, ov_beP, ov_dnP, ov_poR, ov_ahF, ov_rdG, ov_buG, ov_poG, ov_hoG, ov_itsI, ov_zerG, ov_sz1, ov_feedG, ov_loadG, ov_mvG, ov_bkG, ov_cpyP, ov_boyG, ov_juG]
  try rw [ov_rowG (by decide) (by decide)]
  try simp (disch := decide) only [ov_hi, ov_ms]
  all_goals ((repeat' split) <;> rfl)
theorem ov_pHeats {c : Nat} {x h : Int32} {M X : Mem} : pHeats c x h (ov M X) = ((pHeats c x h M).1, ov (pHeats c x h M).2 X) := by
  unfold pHeats
  try simp (disch := decide) only [ov_hi, ov_ms, ov_fdM, ov_col, ov_cco, ov_dueC, ov_spF, ov_SV, ov_mNewM, ov_mNewC, ov_mPutM, ov_mWalkM, ov_mGo, ov_cnF, ov_prF, ov_shF, ov_coF, ov_kdF, ov_twF, ov_tkF, ov_brF, ov_beP, ov_dnP, ov_poR, ov_ahF, ov_rdG, ov_buG, ov_poG, ov_hoG, ov_itsI, ov_zerG, ov_sz1, ov_feedG, ov_loadG, ov_mvG, ov_bkG, ov_cpyP, ov_boyG, ov_juG]
  try rw [ov_rowG (by decide) (by decide)]
  try simp (disch := decide) only [ov_hi, ov_ms]
  all_goals ((repeat' split) <;> rfl)
theorem ov_pHow {c : Nat} {x : Int32} {M X : Mem} : pHow c x (ov M X) = ((pHow c x M).1, ov (pHow c x M).2 X) := by
  unfold pHow
  try simp (disch := decide) only [ov_hi, ov_ms, ov_fdM, ov_col, ov_cco, ov_dueC, ov_spF, ov_SV, ov_mNewM, ov_mNewC, ov_mPutM, ov_mWalkM, ov_mGo, ov_cnF, ov_prF, ov_shF, ov_coF, ov_kdF, ov_twF, ov_tkF, ov_brF, ov_beP, ov_dnP, ov_poR, ov_ahF, ov_rdG, ov_buG, ov_poG, ov_hoG, ov_itsI, ov_zerG, ov_sz1, ov_feedG, ov_loadG, ov_mvG, ov_bkG, ov_cpyP, ov_boyG, ov_juG]
  try rw [ov_rowG (by decide) (by decide)]
  try simp (disch := decide) only [ov_hi, ov_ms]
  all_goals ((repeat' split) <;> rfl)
theorem ov_pShovel {c : Nat} {n : Int32} {M X : Mem} : pShovel c n (ov M X) = ((pShovel c n M).1, ov (pShovel c n M).2 X) := by
  unfold pShovel
  try simp (disch := decide) only [ov_hi, ov_ms, ov_fdM, ov_col, ov_cco, ov_dueC, ov_spF, ov_SV, ov_mNewM, ov_mNewC, ov_mPutM, ov_mWalkM, ov_mGo, ov_cnF, ov_prF, ov_shF, ov_coF, ov_kdF, ov_twF, ov_tkF, ov_brF, ov_beP, ov_dnP, ov_poR, ov_ahF, ov_rdG, ov_buG, ov_poG, ov_hoG, ov_itsI, ov_zerG, ov_sz1, ov_feedG, ov_loadG, ov_mvG, ov_bkG, ov_cpyP, ov_boyG, ov_juG]
  try rw [ov_rowG (by decide) (by decide)]
  try simp (disch := decide) only [ov_hi, ov_ms]
  all_goals ((repeat' split) <;> rfl)
theorem ov_pRule {c : Nat} {w v : Int32} {M X : Mem} : pRule c w v (ov M X) = ((pRule c w v M).1, ov (pRule c w v M).2 X) := by
  unfold pRule
  try simp (disch := decide) only [ov_hi, ov_ms, ov_fdM, ov_col, ov_cco, ov_dueC, ov_spF, ov_SV, ov_mNewM, ov_mNewC, ov_mPutM, ov_mWalkM, ov_mGo, ov_cnF, ov_prF, ov_shF, ov_coF, ov_kdF, ov_twF, ov_tkF, ov_brF, ov_beP, ov_dnP, ov_poR, ov_ahF, ov_rdG, ov_buG, ov_poG, ov_hoG, ov_itsI, ov_zerG, ov_sz1, ov_feedG, ov_loadG, ov_mvG, ov_bkG, ov_cpyP, ov_boyG, ov_juG]
  try rw [ov_rowG (by decide) (by decide)]
  try simp (disch := decide) only [ov_hi, ov_ms]
  all_goals ((repeat' split) <;> rfl)
theorem ov_pWalk {c : Nat} {t : Int32} {M X : Mem} : pWalk c t (ov M X) = ((pWalk c t M).1, ov (pWalk c t M).2 X) := by
  unfold pWalk
  try simp (disch := decide) only [ov_hi, ov_ms, ov_fdM, ov_col, ov_cco, ov_dueC, ov_spF, ov_SV, ov_mNewM, ov_mNewC, ov_mPutM, ov_mWalkM, ov_mGo, ov_cnF, ov_prF, ov_shF, ov_coF, ov_kdF, ov_twF, ov_tkF, ov_brF, ov_beP, ov_dnP, ov_poR, ov_ahF, ov_rdG, ov_buG, ov_poG, ov_hoG, ov_itsI, ov_zerG, ov_sz1, ov_feedG, ov_loadG, ov_mvG, ov_bkG, ov_cpyP, ov_boyG, ov_juG]
  try rw [ov_rowG (by decide) (by decide)]
  try simp (disch := decide) only [ov_hi, ov_ms]
  all_goals ((repeat' split) <;> rfl)
theorem ov_pCrowd {c cc : Nat} {co mi ma : Int32} {M X : Mem} : pCrowd c cc co mi ma (ov M X) = ((pCrowd c cc co mi ma M).1, ov (pCrowd c cc co mi ma M).2 X) := by
  unfold pCrowd
  try simp (disch := decide) only [ov_hi, ov_ms, ov_fdM, ov_col, ov_cco, ov_dueC, ov_spF, ov_SV, ov_mNewM, ov_mNewC, ov_mPutM, ov_mWalkM, ov_mGo, ov_cnF, ov_prF, ov_shF, ov_coF, ov_kdF, ov_twF, ov_tkF, ov_brF, ov_beP, ov_dnP, ov_poR, ov_ahF, ov_rdG, ov_buG, ov_poG, ov_hoG, ov_itsI, ov_zerG, ov_sz1, ov_feedG, ov_loadG, ov_mvG, ov_bkG, ov_cpyP, ov_boyG, ov_juG]
  try rw [ov_rowG (by decide) (by decide)]
  try simp (disch := decide) only [ov_hi, ov_ms]
  all_goals ((repeat' split) <;> rfl)
theorem ov_pCrowdOf {c cc : Nat} {x w : Int32} {M X : Mem} : pCrowdOf c cc x w (ov M X) = ((pCrowdOf c cc x w M).1, ov (pCrowdOf c cc x w M).2 X) := by
  unfold pCrowdOf
  try simp (disch := decide) only [ov_hi, ov_ms, ov_fdM, ov_col, ov_cco, ov_dueC, ov_spF, ov_SV, ov_mNewM, ov_mNewC, ov_mPutM, ov_mWalkM, ov_mGo, ov_cnF, ov_prF, ov_shF, ov_coF, ov_kdF, ov_twF, ov_tkF, ov_brF, ov_beP, ov_dnP, ov_poR, ov_ahF, ov_rdG, ov_buG, ov_poG, ov_hoG, ov_itsI, ov_zerG, ov_sz1, ov_feedG, ov_loadG, ov_mvG, ov_bkG, ov_cpyP, ov_boyG, ov_juG]
  try rw [ov_rowG (by decide) (by decide)]
  try simp (disch := decide) only [ov_hi, ov_ms]
  all_goals ((repeat' split) <;> rfl)
theorem ov_pLate {c cc : Nat} {x w v : Int32} {M X : Mem} : pLate c cc x w v (ov M X) = ((pLate c cc x w v M).1, ov (pLate c cc x w v M).2 X) := by
  unfold pLate
  try simp (disch := decide) only [ov_hi, ov_ms, ov_fdM, ov_col, ov_cco, ov_dueC, ov_spF, ov_SV, ov_mNewM, ov_mNewC, ov_mPutM, ov_mWalkM, ov_mGo, ov_cnF, ov_prF, ov_shF, ov_coF, ov_kdF, ov_twF, ov_tkF, ov_brF, ov_beP, ov_dnP, ov_poR, ov_ahF, ov_rdG, ov_buG, ov_poG, ov_hoG, ov_itsI, ov_zerG, ov_sz1, ov_feedG, ov_loadG, ov_mvG, ov_bkG, ov_cpyP, ov_boyG, ov_juG]
  try rw [ov_rowG (by decide) (by decide)]
  try simp (disch := decide) only [ov_hi, ov_ms]
  all_goals ((repeat' split) <;> rfl)
theorem ov_pMinutes {c cc m : Nat} {n : Int32} {M X : Mem} : pMinutes c cc m n (ov M X) = ((pMinutes c cc m n M).1, ov (pMinutes c cc m n M).2 X) := by
  unfold pMinutes
  try simp (disch := decide) only [ov_hi, ov_ms, ov_fdM, ov_col, ov_cco, ov_dueC, ov_spF, ov_SV, ov_mNewM, ov_mNewC, ov_mPutM, ov_mWalkM, ov_mGo, ov_cnF, ov_prF, ov_shF, ov_coF, ov_kdF, ov_twF, ov_tkF, ov_brF, ov_beP, ov_dnP, ov_poR, ov_ahF, ov_rdG, ov_buG, ov_poG, ov_hoG, ov_itsI, ov_zerG, ov_sz1, ov_feedG, ov_loadG, ov_mvG, ov_bkG, ov_cpyP, ov_boyG, ov_juG]
  try rw [ov_rowG (by decide) (by decide)]
  try simp (disch := decide) only [ov_hi, ov_ms]
  all_goals ((repeat' split) <;> rfl)
theorem ov_pNow {c : Nat} {w : Int32} {M X : Mem} : pNow c w (ov M X) = ((pNow c w M).1, ov (pNow c w M).2 X) := by
  unfold pNow
  try simp (disch := decide) only [ov_hi, ov_ms, ov_fdM, ov_col, ov_cco, ov_dueC, ov_spF, ov_SV, ov_mNewM, ov_mNewC, ov_mPutM, ov_mWalkM, ov_mGo, ov_cnF, ov_prF, ov_shF, ov_coF, ov_kdF, ov_twF, ov_tkF, ov_brF, ov_beP, ov_dnP, ov_poR, ov_ahF, ov_rdG, ov_buG, ov_poG, ov_hoG, ov_itsI, ov_zerG, ov_sz1, ov_feedG, ov_loadG, ov_mvG, ov_bkG, ov_cpyP, ov_boyG, ov_juG]
  try rw [ov_rowG (by decide) (by decide)]
  try simp (disch := decide) only [ov_hi, ov_ms]
  all_goals ((repeat' split) <;> rfl)
theorem ov_pAt {c : Nat} {p : Int32} {M X : Mem} : pAt c p (ov M X) = ((pAt c p M).1, ov (pAt c p M).2 X) := by
  unfold pAt
  try simp (disch := decide) only [ov_hi, ov_ms, ov_fdM, ov_col, ov_cco, ov_dueC, ov_spF, ov_SV, ov_mNewM, ov_mNewC, ov_mPutM, ov_mWalkM, ov_mGo, ov_cnF, ov_prF, ov_shF, ov_coF, ov_kdF, ov_twF, ov_tkF, ov_brF, ov_beP, ov_dnP, ov_poR, ov_ahF, ov_rdG, ov_buG, ov_poG, ov_hoG, ov_itsI, ov_zerG, ov_sz1, ov_feedG, ov_loadG, ov_mvG, ov_bkG, ov_cpyP, ov_boyG, ov_juG]
  try rw [ov_rowG (by decide) (by decide)]
  try simp (disch := decide) only [ov_hi, ov_ms]
  all_goals ((repeat' split) <;> rfl)
theorem ov_pAhead {c cc m : Nat} {n w : Int32} {M X : Mem} : pAhead c cc m n w (ov M X) = ((pAhead c cc m n w M).1, ov (pAhead c cc m n w M).2 X) := by
  unfold pAhead
  try simp (disch := decide) only [ov_hi, ov_ms, ov_fdM, ov_col, ov_cco, ov_dueC, ov_spF, ov_SV, ov_mNewM, ov_mNewC, ov_mPutM, ov_mWalkM, ov_mGo, ov_cnF, ov_prF, ov_shF, ov_coF, ov_kdF, ov_twF, ov_tkF, ov_brF, ov_beP, ov_dnP, ov_poR, ov_ahF, ov_rdG, ov_buG, ov_poG, ov_hoG, ov_itsI, ov_zerG, ov_sz1, ov_feedG, ov_loadG, ov_mvG, ov_bkG, ov_cpyP, ov_boyG, ov_juG]
  try rw [ov_rowG (by decide) (by decide)]
  try simp (disch := decide) only [ov_hi, ov_ms]
  all_goals ((repeat' split) <;> rfl)
theorem ov_pReady {c cc m : Nat} {x : Int32} {M X : Mem} : pReady c cc m x (ov M X) = ((pReady c cc m x M).1, ov (pReady c cc m x M).2 X) := by
  unfold pReady
  try simp (disch := decide) only [ov_hi, ov_ms, ov_fdM, ov_col, ov_cco, ov_dueC, ov_spF, ov_SV, ov_mNewM, ov_mNewC, ov_mPutM, ov_mWalkM, ov_mGo, ov_cnF, ov_prF, ov_shF, ov_coF, ov_kdF, ov_twF, ov_tkF, ov_brF, ov_beP, ov_dnP, ov_poR, ov_ahF, ov_rdG, ov_buG, ov_poG, ov_hoG, ov_itsI, ov_zerG, ov_sz1, ov_feedG, ov_loadG, ov_mvG, ov_bkG, ov_cpyP, ov_boyG, ov_juG]
  try rw [ov_rowG (by decide) (by decide)]
  try simp (disch := decide) only [ov_hi, ov_ms]
  all_goals ((repeat' split) <;> rfl)
theorem ov_pBurnt {c cc m : Nat} {x : Int32} {M X : Mem} : pBurnt c cc m x (ov M X) = ((pBurnt c cc m x M).1, ov (pBurnt c cc m x M).2 X) := by
  unfold pBurnt
  try simp (disch := decide) only [ov_hi, ov_ms, ov_fdM, ov_col, ov_cco, ov_dueC, ov_spF, ov_SV, ov_mNewM, ov_mNewC, ov_mPutM, ov_mWalkM, ov_mGo, ov_cnF, ov_prF, ov_shF, ov_coF, ov_kdF, ov_twF, ov_tkF, ov_brF, ov_beP, ov_dnP, ov_poR, ov_ahF, ov_rdG, ov_buG, ov_poG, ov_hoG, ov_itsI, ov_zerG, ov_sz1, ov_feedG, ov_loadG, ov_mvG, ov_bkG, ov_cpyP, ov_boyG, ov_juG]
  try rw [ov_rowG (by decide) (by decide)]
  try simp (disch := decide) only [ov_hi, ov_ms]
  all_goals ((repeat' split) <;> rfl)
theorem ov_pPutOn {c cc m : Nat} {x mm : Int32} {M X : Mem} : pPutOn c cc m x mm (ov M X) = ((pPutOn c cc m x mm M).1, ov (pPutOn c cc m x mm M).2 X) := by
  unfold pPutOn
  try simp (disch := decide) only [ov_hi, ov_ms, ov_fdM, ov_col, ov_cco, ov_dueC, ov_spF, ov_SV, ov_mNewM, ov_mNewC, ov_mPutM, ov_mWalkM, ov_mGo, ov_cnF, ov_prF, ov_shF, ov_coF, ov_kdF, ov_twF, ov_tkF, ov_brF, ov_beP, ov_dnP, ov_poR, ov_ahF, ov_rdG, ov_buG, ov_poG, ov_hoG, ov_itsI, ov_zerG, ov_sz1, ov_feedG, ov_loadG, ov_mvG, ov_bkG, ov_cpyP, ov_boyG, ov_juG]
  try rw [ov_rowG (by decide) (by decide)]
  try simp (disch := decide) only [ov_hi, ov_ms]
  all_goals ((repeat' split) <;> rfl)
theorem ov_pTakeOff {c cc m : Nat} {x n : Int32} {M X : Mem} : pTakeOff c cc m x n (ov M X) = ((pTakeOff c cc m x n M).1, ov (pTakeOff c cc m x n M).2 X) := by
  unfold pTakeOff
  try simp (disch := decide) only [ov_hi, ov_ms, ov_fdM, ov_col, ov_cco, ov_dueC, ov_spF, ov_SV, ov_mNewM, ov_mNewC, ov_mPutM, ov_mWalkM, ov_mGo, ov_cnF, ov_prF, ov_shF, ov_coF, ov_kdF, ov_twF, ov_tkF, ov_brF, ov_beP, ov_dnP, ov_poR, ov_ahF, ov_rdG, ov_buG, ov_poG, ov_hoG, ov_itsI, ov_zerG, ov_sz1, ov_feedG, ov_loadG, ov_mvG, ov_bkG, ov_cpyP, ov_boyG, ov_juG]
  try rw [ov_rowG (by decide) (by decide)]
  try simp (disch := decide) only [ov_hi, ov_ms]
  all_goals ((repeat' split) <;> rfl)
theorem ov_pShovels {c cc m : Nat} {n : Int32} {M X : Mem} : pShovels c cc m n (ov M X) = ((pShovels c cc m n M).1, ov (pShovels c cc m n M).2 X) := by
  unfold pShovels
  try simp (disch := decide) only [ov_hi, ov_ms, ov_fdM, ov_col, ov_cco, ov_dueC, ov_spF, ov_SV, ov_mNewM, ov_mNewC, ov_mPutM, ov_mWalkM, ov_mGo, ov_cnF, ov_prF, ov_shF, ov_coF, ov_kdF, ov_twF, ov_tkF, ov_brF, ov_beP, ov_dnP, ov_poR, ov_ahF, ov_rdG, ov_buG, ov_poG, ov_hoG, ov_itsI, ov_zerG, ov_sz1, ov_feedG, ov_loadG, ov_mvG, ov_bkG, ov_cpyP, ov_boyG, ov_juG]
  try rw [ov_rowG (by decide) (by decide)]
  try simp (disch := decide) only [ov_hi, ov_ms]
  all_goals ((repeat' split) <;> rfl)
theorem ov_pCorner {c cc m : Nat} {n : Int32} {M X : Mem} : pCorner c cc m n (ov M X) = ((pCorner c cc m n M).1, ov (pCorner c cc m n M).2 X) := by
  unfold pCorner
  try simp (disch := decide) only [ov_hi, ov_ms, ov_fdM, ov_col, ov_cco, ov_dueC, ov_spF, ov_SV, ov_mNewM, ov_mNewC, ov_mPutM, ov_mWalkM, ov_mGo, ov_cnF, ov_prF, ov_shF, ov_coF, ov_kdF, ov_twF, ov_tkF, ov_brF, ov_beP, ov_dnP, ov_poR, ov_ahF, ov_rdG, ov_buG, ov_poG, ov_hoG, ov_itsI, ov_zerG, ov_sz1, ov_feedG, ov_loadG, ov_mvG, ov_bkG, ov_cpyP, ov_boyG, ov_juG]
  try rw [ov_rowG (by decide) (by decide)]
  try simp (disch := decide) only [ov_hi, ov_ms]
  all_goals ((repeat' split) <;> rfl)
theorem ov_pTwo {c cc m : Nat} {y n : Int32} {M X : Mem} : pTwo c cc m y n (ov M X) = ((pTwo c cc m y n M).1, ov (pTwo c cc m y n M).2 X) := by
  unfold pTwo
  try simp (disch := decide) only [ov_hi, ov_ms, ov_fdM, ov_col, ov_cco, ov_dueC, ov_spF, ov_SV, ov_mNewM, ov_mNewC, ov_mPutM, ov_mWalkM, ov_mGo, ov_cnF, ov_prF, ov_shF, ov_coF, ov_kdF, ov_twF, ov_tkF, ov_brF, ov_beP, ov_dnP, ov_poR, ov_ahF, ov_rdG, ov_buG, ov_poG, ov_hoG, ov_itsI, ov_zerG, ov_sz1, ov_feedG, ov_loadG, ov_mvG, ov_bkG, ov_cpyP, ov_boyG, ov_juG]
  try rw [ov_rowG (by decide) (by decide)]
  try simp (disch := decide) only [ov_hi, ov_ms]
  all_goals ((repeat' split) <;> rfl)
theorem ov_pPrice {c cc m : Nat} {n : Int32} {M X : Mem} : pPrice c cc m n (ov M X) = ((pPrice c cc m n M).1, ov (pPrice c cc m n M).2 X) := by
  unfold pPrice
  try simp (disch := decide) only [ov_hi, ov_ms, ov_fdM, ov_col, ov_cco, ov_dueC, ov_spF, ov_SV, ov_mNewM, ov_mNewC, ov_mPutM, ov_mWalkM, ov_mGo, ov_cnF, ov_prF, ov_shF, ov_coF, ov_kdF, ov_twF, ov_tkF, ov_brF, ov_beP, ov_dnP, ov_poR, ov_ahF, ov_rdG, ov_buG, ov_poG, ov_hoG, ov_itsI, ov_zerG, ov_sz1, ov_feedG, ov_loadG, ov_mvG, ov_bkG, ov_cpyP, ov_boyG, ov_juG]
  try rw [ov_rowG (by decide) (by decide)]
  try simp (disch := decide) only [ov_hi, ov_ms]
  all_goals ((repeat' split) <;> rfl)
theorem ov_pKindFor {c cc m : Nat} {x n : Int32} {M X : Mem} : pKindFor c cc m x n (ov M X) = ((pKindFor c cc m x n M).1, ov (pKindFor c cc m x n M).2 X) := by
  unfold pKindFor
  try simp (disch := decide) only [ov_hi, ov_ms, ov_fdM, ov_col, ov_cco, ov_dueC, ov_spF, ov_SV, ov_mNewM, ov_mNewC, ov_mPutM, ov_mWalkM, ov_mGo, ov_cnF, ov_prF, ov_shF, ov_coF, ov_kdF, ov_twF, ov_tkF, ov_brF, ov_beP, ov_dnP, ov_poR, ov_ahF, ov_rdG, ov_buG, ov_poG, ov_hoG, ov_itsI, ov_zerG, ov_sz1, ov_feedG, ov_loadG, ov_mvG, ov_bkG, ov_cpyP, ov_boyG, ov_juG]
  try rw [ov_rowG (by decide) (by decide)]
  try simp (disch := decide) only [ov_hi, ov_ms]
  all_goals ((repeat' split) <;> rfl)
theorem ov_pHeatFor {c cc m : Nat} {x n : Int32} {M X : Mem} : pHeatFor c cc m x n (ov M X) = ((pHeatFor c cc m x n M).1, ov (pHeatFor c cc m x n M).2 X) := by
  unfold pHeatFor
  try simp (disch := decide) only [ov_hi, ov_ms, ov_fdM, ov_col, ov_cco, ov_dueC, ov_spF, ov_SV, ov_mNewM, ov_mNewC, ov_mPutM, ov_mWalkM, ov_mGo, ov_cnF, ov_prF, ov_shF, ov_coF, ov_kdF, ov_twF, ov_tkF, ov_brF, ov_beP, ov_dnP, ov_poR, ov_ahF, ov_rdG, ov_buG, ov_poG, ov_hoG, ov_itsI, ov_zerG, ov_sz1, ov_feedG, ov_loadG, ov_mvG, ov_bkG, ov_cpyP, ov_boyG, ov_juG]
  try rw [ov_rowG (by decide) (by decide)]
  try simp (disch := decide) only [ov_hi, ov_ms]
  all_goals ((repeat' split) <;> rfl)
theorem ov_pBrings {c cc m : Nat} {x n : Int32} {M X : Mem} : pBrings c cc m x n (ov M X) = ((pBrings c cc m x n M).1, ov (pBrings c cc m x n M).2 X) := by
  unfold pBrings
  try simp (disch := decide) only [ov_hi, ov_ms, ov_fdM, ov_col, ov_cco, ov_dueC, ov_spF, ov_SV, ov_mNewM, ov_mNewC, ov_mPutM, ov_mWalkM, ov_mGo, ov_cnF, ov_prF, ov_shF, ov_coF, ov_kdF, ov_twF, ov_tkF, ov_brF, ov_beP, ov_dnP, ov_poR, ov_ahF, ov_rdG, ov_buG, ov_poG, ov_hoG, ov_itsI, ov_zerG, ov_sz1, ov_feedG, ov_loadG, ov_mvG, ov_bkG, ov_cpyP, ov_boyG, ov_juG]
  try rw [ov_rowG (by decide) (by decide)]
  try simp (disch := decide) only [ov_hi, ov_ms]
  all_goals ((repeat' split) <;> rfl)
theorem ov_pLeft {c cc m : Nat} {n : Int32} {M X : Mem} : pLeft c cc m n (ov M X) = ((pLeft c cc m n M).1, ov (pLeft c cc m n M).2 X) := by
  unfold pLeft
  try simp (disch := decide) only [ov_hi, ov_ms, ov_fdM, ov_col, ov_cco, ov_dueC, ov_spF, ov_SV, ov_mNewM, ov_mNewC, ov_mPutM, ov_mWalkM, ov_mGo, ov_cnF, ov_prF, ov_shF, ov_coF, ov_kdF, ov_twF, ov_tkF, ov_brF, ov_beP, ov_dnP, ov_poR, ov_ahF, ov_rdG, ov_buG, ov_poG, ov_hoG, ov_itsI, ov_zerG, ov_sz1, ov_feedG, ov_loadG, ov_mvG, ov_bkG, ov_cpyP, ov_boyG, ov_juG]
  try rw [ov_rowG (by decide) (by decide)]
  try simp (disch := decide) only [ov_hi, ov_ms]
  all_goals ((repeat' split) <;> rfl)
theorem ov_pBoys {c : Nat} {n : Int32} {M X : Mem} : pBoys c n (ov M X) = ((pBoys c n M).1, ov (pBoys c n M).2 X) := by
  unfold pBoys
  try simp (disch := decide) only [ov_hi, ov_ms, ov_fdM, ov_col, ov_cco, ov_dueC, ov_spF, ov_SV, ov_mNewM, ov_mNewC, ov_mPutM, ov_mWalkM, ov_mGo, ov_cnF, ov_prF, ov_shF, ov_coF, ov_kdF, ov_twF, ov_tkF, ov_brF, ov_beP, ov_dnP, ov_poR, ov_ahF, ov_rdG, ov_buG, ov_poG, ov_hoG, ov_itsI, ov_zerG, ov_sz1, ov_feedG, ov_loadG, ov_mvG, ov_bkG, ov_cpyP, ov_boyG, ov_juG]
  try rw [ov_rowG (by decide) (by decide)]
  try simp (disch := decide) only [ov_hi, ov_ms]
  all_goals ((repeat' split) <;> rfl)
theorem ov_pSeed {c : Nat} {v : Int32} {M X : Mem} : pSeed c v (ov M X) = ((pSeed c v M).1, ov (pSeed c v M).2 X) := by
  unfold pSeed
  try simp (disch := decide) only [ov_hi, ov_ms, ov_fdM, ov_col, ov_cco, ov_dueC, ov_spF, ov_SV, ov_mNewM, ov_mNewC, ov_mPutM, ov_mWalkM, ov_mGo, ov_cnF, ov_prF, ov_shF, ov_coF, ov_kdF, ov_twF, ov_tkF, ov_brF, ov_beP, ov_dnP, ov_poR, ov_ahF, ov_rdG, ov_buG, ov_poG, ov_hoG, ov_itsI, ov_zerG, ov_sz1, ov_feedG, ov_loadG, ov_mvG, ov_bkG, ov_cpyP, ov_boyG, ov_juG]
  try rw [ov_rowG (by decide) (by decide)]
  try simp (disch := decide) only [ov_hi, ov_ms]
  all_goals ((repeat' split) <;> rfl)
theorem ov_pFeed {c t : Nat} {x n : Int32} {M X : Mem} : pFeed c t x n (ov M X) = ((pFeed c t x n M).1, ov (pFeed c t x n M).2 X) := by
  unfold pFeed
  try simp (disch := decide) only [ov_hi, ov_ms, ov_fdM, ov_col, ov_cco, ov_dueC, ov_spF, ov_SV, ov_mNewM, ov_mNewC, ov_mPutM, ov_mWalkM, ov_mGo, ov_cnF, ov_prF, ov_shF, ov_coF, ov_kdF, ov_twF, ov_tkF, ov_brF, ov_beP, ov_dnP, ov_poR, ov_ahF, ov_rdG, ov_buG, ov_poG, ov_hoG, ov_itsI, ov_zerG, ov_sz1, ov_feedG, ov_loadG, ov_mvG, ov_bkG, ov_cpyP, ov_boyG, ov_juG]
  try rw [ov_rowG (by decide) (by decide)]
  try simp (disch := decide) only [ov_hi, ov_ms]
  all_goals ((repeat' split) <;> rfl)
theorem ov_pWipe {c : Nat} {M X : Mem} : pWipe c (ov M X) = ((pWipe c M).1, ov (pWipe c M).2 X) := by
  unfold pWipe
  try simp (disch := decide) only [ov_hi, ov_ms, ov_fdM, ov_col, ov_cco, ov_dueC, ov_spF, ov_SV, ov_mNewM, ov_mNewC, ov_mPutM, ov_mWalkM, ov_mGo, ov_cnF, ov_prF, ov_shF, ov_coF, ov_kdF, ov_twF, ov_tkF, ov_brF, ov_beP, ov_dnP, ov_poR, ov_ahF, ov_rdG, ov_buG, ov_poG, ov_hoG, ov_itsI, ov_zerG, ov_sz1, ov_feedG, ov_loadG, ov_mvG, ov_bkG, ov_cpyP, ov_boyG, ov_juG]
  try rw [ov_rowG (by decide) (by decide)]
  try simp (disch := decide) only [ov_hi, ov_ms]
  all_goals ((repeat' split) <;> rfl)
theorem ov_pHold {c : Nat} {x b : Int32} {M X : Mem} : pHold c x b (ov M X) = ((pHold c x b M).1, ov (pHold c x b M).2 X) := by
  unfold pHold
  try simp (disch := decide) only [ov_hi, ov_ms, ov_fdM, ov_col, ov_cco, ov_dueC, ov_spF, ov_SV, ov_mNewM, ov_mNewC, ov_mPutM, ov_mWalkM, ov_mGo, ov_cnF, ov_prF, ov_shF, ov_coF, ov_kdF, ov_twF, ov_tkF, ov_brF, ov_beP, ov_dnP, ov_poR, ov_ahF, ov_rdG, ov_buG, ov_poG, ov_hoG, ov_itsI, ov_zerG, ov_sz1, ov_feedG, ov_loadG, ov_mvG, ov_bkG, ov_cpyP, ov_boyG, ov_juG]
  try rw [ov_rowG (by decide) (by decide)]
  try simp (disch := decide) only [ov_hi, ov_ms]
  all_goals ((repeat' split) <;> rfl)
theorem ov_pAs {c : Nat} {x w : Int32} {M X : Mem} : pAs c x w (ov M X) = ((pAs c x w M).1, ov (pAs c x w M).2 X) := by
  unfold pAs
  try simp (disch := decide) only [ov_hi, ov_ms, ov_fdM, ov_col, ov_cco, ov_dueC, ov_spF, ov_SV, ov_mNewM, ov_mNewC, ov_mPutM, ov_mWalkM, ov_mGo, ov_cnF, ov_prF, ov_shF, ov_coF, ov_kdF, ov_twF, ov_tkF, ov_brF, ov_beP, ov_dnP, ov_poR, ov_ahF, ov_rdG, ov_buG, ov_poG, ov_hoG, ov_itsI, ov_zerG, ov_sz1, ov_feedG, ov_loadG, ov_mvG, ov_bkG, ov_cpyP, ov_boyG, ov_juG]
  try rw [ov_rowG (by decide) (by decide)]
  try simp (disch := decide) only [ov_hi, ov_ms]
  all_goals ((repeat' split) <;> rfl)
theorem ov_pSheet {c : Nat} {x bits n : Int32} {M X : Mem} : pSheet c x bits n (ov M X) = ((pSheet c x bits n M).1, ov (pSheet c x bits n M).2 X) := by
  unfold pSheet
  try simp (disch := decide) only [ov_hi, ov_ms, ov_fdM, ov_col, ov_cco, ov_dueC, ov_spF, ov_SV, ov_mNewM, ov_mNewC, ov_mPutM, ov_mWalkM, ov_mGo, ov_cnF, ov_prF, ov_shF, ov_coF, ov_kdF, ov_twF, ov_tkF, ov_brF, ov_beP, ov_dnP, ov_poR, ov_ahF, ov_rdG, ov_buG, ov_poG, ov_hoG, ov_itsI, ov_zerG, ov_sz1, ov_feedG, ov_loadG, ov_mvG, ov_bkG, ov_cpyP, ov_boyG, ov_juG]
  try rw [ov_rowG (by decide) (by decide)]
  try simp (disch := decide) only [ov_hi, ov_ms]
  all_goals ((repeat' split) <;> rfl)
theorem ov_pWrite {c : Nat} {x i v : Int32} {M X : Mem} : pWrite c x i v (ov M X) = ((pWrite c x i v M).1, ov (pWrite c x i v M).2 X) := by
  unfold pWrite
  try simp (disch := decide) only [ov_hi, ov_ms, ov_fdM, ov_col, ov_cco, ov_dueC, ov_spF, ov_SV, ov_mNewM, ov_mNewC, ov_mPutM, ov_mWalkM, ov_mGo, ov_cnF, ov_prF, ov_shF, ov_coF, ov_kdF, ov_twF, ov_tkF, ov_brF, ov_beP, ov_dnP, ov_poR, ov_ahF, ov_rdG, ov_buG, ov_poG, ov_hoG, ov_itsI, ov_zerG, ov_sz1, ov_feedG, ov_loadG, ov_mvG, ov_bkG, ov_cpyP, ov_boyG, ov_juG]
  try rw [ov_rowG (by decide) (by decide)]
  try simp (disch := decide) only [ov_hi, ov_ms]
  all_goals ((repeat' split) <;> rfl)
theorem ov_pCopy {c : Nat} {x f y g n : Int32} {M X : Mem} : pCopy c x f y g n (ov M X) = ((pCopy c x f y g n M).1, ov (pCopy c x f y g n M).2 X) := by
  unfold pCopy
  try simp (disch := decide) only [ov_hi, ov_ms, ov_fdM, ov_col, ov_cco, ov_dueC, ov_spF, ov_SV, ov_mNewM, ov_mNewC, ov_mPutM, ov_mWalkM, ov_mGo, ov_cnF, ov_prF, ov_shF, ov_coF, ov_kdF, ov_twF, ov_tkF, ov_brF, ov_beP, ov_dnP, ov_poR, ov_ahF, ov_rdG, ov_buG, ov_poG, ov_hoG, ov_itsI, ov_zerG, ov_sz1, ov_feedG, ov_loadG, ov_mvG, ov_bkG, ov_cpyP, ov_boyG, ov_juG]
  try rw [ov_rowG (by decide) (by decide)]
  try simp (disch := decide) only [ov_hi, ov_ms]
  all_goals ((repeat' split) <;> rfl)
theorem ov_pLoad {c : Nat} {x : Int32} {M X : Mem} : pLoad c x (ov M X) = ((pLoad c x M).1, ov (pLoad c x M).2 X) := by
  unfold pLoad
  try simp (disch := decide) only [ov_hi, ov_ms, ov_fdM, ov_col, ov_cco, ov_dueC, ov_spF, ov_SV, ov_mNewM, ov_mNewC, ov_mPutM, ov_mWalkM, ov_mGo, ov_cnF, ov_prF, ov_shF, ov_coF, ov_kdF, ov_twF, ov_tkF, ov_brF, ov_beP, ov_dnP, ov_poR, ov_ahF, ov_rdG, ov_buG, ov_poG, ov_hoG, ov_itsI, ov_zerG, ov_sz1, ov_feedG, ov_loadG, ov_mvG, ov_bkG, ov_cpyP, ov_boyG, ov_juG]
  try rw [ov_rowG (by decide) (by decide)]
  try simp (disch := decide) only [ov_hi, ov_ms]
  all_goals ((repeat' split) <;> rfl)
theorem ov_pJudge {c cc m : Nat} {x : Int32} {M X : Mem} : pJudge c cc m x (ov M X) = ((pJudge c cc m x M).1, ov (pJudge c cc m x M).2 X) := by
  unfold pJudge
  try simp (disch := decide) only [ov_hi, ov_ms, ov_fdM, ov_col, ov_cco, ov_dueC, ov_spF, ov_SV, ov_mNewM, ov_mNewC, ov_mPutM, ov_mWalkM, ov_mGo, ov_cnF, ov_prF, ov_shF, ov_coF, ov_kdF, ov_twF, ov_tkF, ov_brF, ov_beP, ov_dnP, ov_poR, ov_ahF, ov_rdG, ov_buG, ov_poG, ov_hoG, ov_itsI, ov_zerG, ov_sz1, ov_feedG, ov_loadG, ov_mvG, ov_bkG, ov_cpyP, ov_boyG, ov_juG]
  try rw [ov_rowG (by decide) (by decide)]
  try simp (disch := decide) only [ov_hi, ov_ms]
  all_goals ((repeat' split) <;> rfl)
theorem ov_pTear {c : Nat} {M X : Mem} : pTear c (ov M X) = ((pTear c M).1, ov (pTear c M).2 X) := by
  unfold pTear
  try simp (disch := decide) only [ov_hi, ov_ms, ov_fdM, ov_col, ov_cco, ov_dueC, ov_spF, ov_SV, ov_mNewM, ov_mNewC, ov_mPutM, ov_mWalkM, ov_mGo, ov_cnF, ov_prF, ov_shF, ov_coF, ov_kdF, ov_twF, ov_tkF, ov_brF, ov_beP, ov_dnP, ov_poR, ov_ahF, ov_rdG, ov_buG, ov_poG, ov_hoG, ov_itsI, ov_zerG, ov_sz1, ov_feedG, ov_loadG, ov_mvG, ov_bkG, ov_cpyP, ov_boyG, ov_juG]
  try rw [ov_rowG (by decide) (by decide)]
  try simp (disch := decide) only [ov_hi, ov_ms]
  all_goals ((repeat' split) <;> rfl)
theorem ov_pCount {c cc : Nat} {w : Int32} {M X : Mem} : pCount c cc w (ov M X) = ((pCount c cc w M).1, ov (pCount c cc w M).2 X) := by
  unfold pCount
  try simp (disch := decide) only [ov_hi, ov_ms, ov_fdM, ov_col, ov_cco, ov_dueC, ov_spF, ov_SV, ov_mNewM, ov_mNewC, ov_mPutM, ov_mWalkM, ov_mGo, ov_cnF, ov_prF, ov_shF, ov_coF, ov_kdF, ov_twF, ov_tkF, ov_brF, ov_beP, ov_dnP, ov_poR, ov_ahF, ov_rdG, ov_buG, ov_poG, ov_hoG, ov_itsI, ov_zerG, ov_sz1, ov_feedG, ov_loadG, ov_mvG, ov_bkG, ov_cpyP, ov_boyG, ov_juG]
  try rw [ov_rowG (by decide) (by decide)]
  try simp (disch := decide) only [ov_hi, ov_ms]
  all_goals ((repeat' split) <;> rfl)
theorem ov_pStatus {c : Nat} {w : Int32} {M X : Mem} : pStatus c w (ov M X) = ((pStatus c w M).1, ov (pStatus c w M).2 X) := by
  unfold pStatus
  try simp (disch := decide) only [ov_hi, ov_ms, ov_fdM, ov_col, ov_cco, ov_dueC, ov_spF, ov_SV, ov_mNewM, ov_mNewC, ov_mPutM, ov_mWalkM, ov_mGo, ov_cnF, ov_prF, ov_shF, ov_coF, ov_kdF, ov_twF, ov_tkF, ov_brF, ov_beP, ov_dnP, ov_poR, ov_ahF, ov_rdG, ov_buG, ov_poG, ov_hoG, ov_itsI, ov_zerG, ov_sz1, ov_feedG, ov_loadG, ov_mvG, ov_bkG, ov_cpyP, ov_boyG, ov_juG]
  try rw [ov_rowG (by decide) (by decide)]
  try simp (disch := decide) only [ov_hi, ov_ms]
  all_goals ((repeat' split) <;> rfl)
