/-! The law's cases: one call of the class, the same of the reference, the same answer -/
def m_L_law (L : Nat) (xs : Nat → Int32) : MD := (yL_law, cL_law, 4, ret, room_1, some (L, xs))
abbrev LL (j : Nat) : List (Nat × Value) := [(0, .ref 99), (1, .ref 0), (2, .ref 62), (3, .int (nI (6 * j)))]
def QT : Option Value → Mem → Prop := fun rv _ => rv = some (.int 1)
theorem c_law_0 {L : Nat} {xs : Nat → Int32} {j : Nat} (hL : L ≤ 3072) (hj : 6 * j + 6 ≤ L) {M : Mem} (hR : RQ (9 * j) M M) (K : ∀ M', RQ (9 * j + 9) M' M' → V (m_L_law L xs) 1530 (LL j) [] M' QT) : V (m_L_law L xs) 232 (LL j) [] M QT := by
  obtain ⟨b, hc, hr⟩ := o_batch (B := 9 * j) (by omega) hR (xs (6 * j + 1))
  refine V.aload_n dL_law_232 rfl rfl rfl ?_
  refine V.aload_n dL_law_233 rfl rfl rfl ?_
  refine V.iload_n dL_law_234 rfl rfl rfl ?_
  refine V.iconst (v := nI 1) dL_law_235 rfl rfl ?_
  refine V.iadd (v := nI (6 * j + 1)) dL_law_236 (nI_add _ _) rfl ?_
  refine V.sald (X := (L, xs)) (v := xs (6 * j + 1)) rfl dL_law_237 (vp_in_nI (by omega) (by omega)) (by rw [nI_clamp (by omega)]) rfl ?_
  refine V.callv (md' := m_X8_batch) (As := [.int (xs (6 * j + 1))]) (rest := []) dL_law_238 ml_L_13 mo_X8_batch ⟨Nat.le_of_ble_eq_true rfl, Nat.le_of_ble_eq_true rfl⟩ rfl ⟨_, _, rfl⟩ (Nat.le_of_ble_eq_true rfl) rfl rfl (Nat.le_of_ble_eq_true rfl) hc (fun rv M1 z => ?_)
  obtain ⟨z1, z2, z3⟩ := z
  rw [z1]
  show V (m_L_law L xs) 241 (LL j) [.int b.1] M1 QT
  refine V.aload_n dL_law_241 rfl rfl rfl ?_
  refine V.aload_n dL_law_242 rfl rfl rfl ?_
  refine V.iload_n dL_law_243 rfl rfl rfl ?_
  refine V.iconst (v := nI 1) dL_law_244 rfl rfl ?_
  refine V.iadd (v := nI (6 * j + 1)) dL_law_245 (nI_add _ _) rfl ?_
  refine V.sald (X := (L, xs)) (v := xs (6 * j + 1)) rfl dL_law_246 (vp_in_nI (by omega) (by omega)) (by rw [nI_clamp (by omega)]) rfl ?_
  refine V.callv (md' := m_X9_batch) (As := [.int (xs (6 * j + 1))]) (rest := [.int b.1]) dL_law_247 ml_L_17 mo_X9_batch ⟨Nat.le_of_ble_eq_true rfl, Nat.le_of_ble_eq_true rfl⟩ rfl ⟨_, _, rfl⟩ (Nat.le_of_ble_eq_true rfl) rfl rfl (Nat.le_of_ble_eq_true rfl) (hr M1 z2) (fun rv M2 z => ?_)
  obtain ⟨y1, y2⟩ := z
  rw [y1, y2]
  show V (m_L_law L xs) 250 (LL j) [.int b.1, .int b.1] (ov b.2 M1) QT
  exact V.icmp_eq (tgt := 1530) dL_law_250 rfl rfl (fun _ => K _ (RQ_ov z3)) (fun z => absurd rfl z)
theorem c_law_1 {L : Nat} {xs : Nat → Int32} {j : Nat} (hL : L ≤ 3072) (hj : 6 * j + 6 ≤ L) {M : Mem} (hR : RQ (9 * j) M M) (K : ∀ M', RQ (9 * j + 9) M' M' → V (m_L_law L xs) 1530 (LL j) [] M' QT) : V (m_L_law L xs) 255 (LL j) [] M QT := by
  obtain ⟨b, hc, hr⟩ := o_of (B := 9 * j) (by omega) hR (xs (6 * j + 1)) (xs (6 * j + 2))
  refine V.aload_n dL_law_255 rfl rfl rfl ?_
  refine V.aload_n dL_law_256 rfl rfl rfl ?_
  refine V.iload_n dL_law_257 rfl rfl rfl ?_
  refine V.iconst (v := nI 1) dL_law_258 rfl rfl ?_
  refine V.iadd (v := nI (6 * j + 1)) dL_law_259 (nI_add _ _) rfl ?_
  refine V.sald (X := (L, xs)) (v := xs (6 * j + 1)) rfl dL_law_260 (vp_in_nI (by omega) (by omega)) (by rw [nI_clamp (by omega)]) rfl ?_
  refine V.aload_n dL_law_261 rfl rfl rfl ?_
  refine V.iload_n dL_law_262 rfl rfl rfl ?_
  refine V.iconst (v := nI 2) dL_law_263 rfl rfl ?_
  refine V.iadd (v := nI (6 * j + 2)) dL_law_264 (nI_add _ _) rfl ?_
  refine V.sald (X := (L, xs)) (v := xs (6 * j + 2)) rfl dL_law_265 (vp_in_nI (by omega) (by omega)) (by rw [nI_clamp (by omega)]) rfl ?_
  refine V.callv (md' := m_X8_of) (As := [.int (xs (6 * j + 1)), .int (xs (6 * j + 2))]) (rest := []) dL_law_266 ml_L_18 mo_X8_of ⟨Nat.le_of_ble_eq_true rfl, Nat.le_of_ble_eq_true rfl⟩ rfl ⟨_, _, rfl⟩ (Nat.le_of_ble_eq_true rfl) rfl rfl (Nat.le_of_ble_eq_true rfl) hc (fun rv M1 z => ?_)
  obtain ⟨z1, z2, z3⟩ := z
  rw [z1]
  show V (m_L_law L xs) 269 (LL j) [.int b.1] M1 QT
  refine V.aload_n dL_law_269 rfl rfl rfl ?_
  refine V.aload_n dL_law_270 rfl rfl rfl ?_
  refine V.iload_n dL_law_271 rfl rfl rfl ?_
  refine V.iconst (v := nI 1) dL_law_272 rfl rfl ?_
  refine V.iadd (v := nI (6 * j + 1)) dL_law_273 (nI_add _ _) rfl ?_
  refine V.sald (X := (L, xs)) (v := xs (6 * j + 1)) rfl dL_law_274 (vp_in_nI (by omega) (by omega)) (by rw [nI_clamp (by omega)]) rfl ?_
  refine V.aload_n dL_law_275 rfl rfl rfl ?_
  refine V.iload_n dL_law_276 rfl rfl rfl ?_
  refine V.iconst (v := nI 2) dL_law_277 rfl rfl ?_
  refine V.iadd (v := nI (6 * j + 2)) dL_law_278 (nI_add _ _) rfl ?_
  refine V.sald (X := (L, xs)) (v := xs (6 * j + 2)) rfl dL_law_279 (vp_in_nI (by omega) (by omega)) (by rw [nI_clamp (by omega)]) rfl ?_
  refine V.callv (md' := m_X9_of) (As := [.int (xs (6 * j + 1)), .int (xs (6 * j + 2))]) (rest := [.int b.1]) dL_law_280 ml_L_22 mo_X9_of ⟨Nat.le_of_ble_eq_true rfl, Nat.le_of_ble_eq_true rfl⟩ rfl ⟨_, _, rfl⟩ (Nat.le_of_ble_eq_true rfl) rfl rfl (Nat.le_of_ble_eq_true rfl) (hr M1 z2) (fun rv M2 z => ?_)
  obtain ⟨y1, y2⟩ := z
  rw [y1, y2]
  show V (m_L_law L xs) 283 (LL j) [.int b.1, .int b.1] (ov b.2 M1) QT
  exact V.icmp_eq (tgt := 1530) dL_law_283 rfl rfl (fun _ => K _ (RQ_ov z3)) (fun z => absurd rfl z)
theorem c_law_2 {L : Nat} {xs : Nat → Int32} {j : Nat} (hL : L ≤ 3072) (hj : 6 * j + 6 ≤ L) {M : Mem} (hR : RQ (9 * j) M M) (K : ∀ M', RQ (9 * j + 9) M' M' → V (m_L_law L xs) 1530 (LL j) [] M' QT) : V (m_L_law L xs) 288 (LL j) [] M QT := by
  obtain ⟨b, hc, hr⟩ := o_change (B := 9 * j) (by omega) hR (xs (6 * j + 1)) (xs (6 * j + 2)) (xs (6 * j + 3))
  refine V.aload_n dL_law_288 rfl rfl rfl ?_
  refine V.aload_n dL_law_289 rfl rfl rfl ?_
  refine V.iload_n dL_law_290 rfl rfl rfl ?_
  refine V.iconst (v := nI 1) dL_law_291 rfl rfl ?_
  refine V.iadd (v := nI (6 * j + 1)) dL_law_292 (nI_add _ _) rfl ?_
  refine V.sald (X := (L, xs)) (v := xs (6 * j + 1)) rfl dL_law_293 (vp_in_nI (by omega) (by omega)) (by rw [nI_clamp (by omega)]) rfl ?_
  refine V.aload_n dL_law_294 rfl rfl rfl ?_
  refine V.iload_n dL_law_295 rfl rfl rfl ?_
  refine V.iconst (v := nI 2) dL_law_296 rfl rfl ?_
  refine V.iadd (v := nI (6 * j + 2)) dL_law_297 (nI_add _ _) rfl ?_
  refine V.sald (X := (L, xs)) (v := xs (6 * j + 2)) rfl dL_law_298 (vp_in_nI (by omega) (by omega)) (by rw [nI_clamp (by omega)]) rfl ?_
  refine V.aload_n dL_law_299 rfl rfl rfl ?_
  refine V.iload_n dL_law_300 rfl rfl rfl ?_
  refine V.iconst (v := nI 3) dL_law_301 rfl rfl ?_
  refine V.iadd (v := nI (6 * j + 3)) dL_law_302 (nI_add _ _) rfl ?_
  refine V.sald (X := (L, xs)) (v := xs (6 * j + 3)) rfl dL_law_303 (vp_in_nI (by omega) (by omega)) (by rw [nI_clamp (by omega)]) rfl ?_
  refine V.callv (md' := m_X8_change) (As := [.int (xs (6 * j + 1)), .int (xs (6 * j + 2)), .int (xs (6 * j + 3))]) (rest := []) dL_law_304 ml_L_23 mo_X8_change ⟨Nat.le_of_ble_eq_true rfl, Nat.le_of_ble_eq_true rfl⟩ rfl ⟨_, _, rfl⟩ (Nat.le_of_ble_eq_true rfl) rfl rfl (Nat.le_of_ble_eq_true rfl) hc (fun rv M1 z => ?_)
  obtain ⟨z1, z2, z3⟩ := z
  rw [z1]
  show V (m_L_law L xs) 307 (LL j) [.int b.1] M1 QT
  refine V.aload_n dL_law_307 rfl rfl rfl ?_
  refine V.aload_n dL_law_308 rfl rfl rfl ?_
  refine V.iload_n dL_law_309 rfl rfl rfl ?_
  refine V.iconst (v := nI 1) dL_law_310 rfl rfl ?_
  refine V.iadd (v := nI (6 * j + 1)) dL_law_311 (nI_add _ _) rfl ?_
  refine V.sald (X := (L, xs)) (v := xs (6 * j + 1)) rfl dL_law_312 (vp_in_nI (by omega) (by omega)) (by rw [nI_clamp (by omega)]) rfl ?_
  refine V.aload_n dL_law_313 rfl rfl rfl ?_
  refine V.iload_n dL_law_314 rfl rfl rfl ?_
  refine V.iconst (v := nI 2) dL_law_315 rfl rfl ?_
  refine V.iadd (v := nI (6 * j + 2)) dL_law_316 (nI_add _ _) rfl ?_
  refine V.sald (X := (L, xs)) (v := xs (6 * j + 2)) rfl dL_law_317 (vp_in_nI (by omega) (by omega)) (by rw [nI_clamp (by omega)]) rfl ?_
  refine V.aload_n dL_law_318 rfl rfl rfl ?_
  refine V.iload_n dL_law_319 rfl rfl rfl ?_
  refine V.iconst (v := nI 3) dL_law_320 rfl rfl ?_
  refine V.iadd (v := nI (6 * j + 3)) dL_law_321 (nI_add _ _) rfl ?_
  refine V.sald (X := (L, xs)) (v := xs (6 * j + 3)) rfl dL_law_322 (vp_in_nI (by omega) (by omega)) (by rw [nI_clamp (by omega)]) rfl ?_
  refine V.callv (md' := m_X9_change) (As := [.int (xs (6 * j + 1)), .int (xs (6 * j + 2)), .int (xs (6 * j + 3))]) (rest := [.int b.1]) dL_law_323 ml_L_27 mo_X9_change ⟨Nat.le_of_ble_eq_true rfl, Nat.le_of_ble_eq_true rfl⟩ rfl ⟨_, _, rfl⟩ (Nat.le_of_ble_eq_true rfl) rfl rfl (Nat.le_of_ble_eq_true rfl) (hr M1 z2) (fun rv M2 z => ?_)
  obtain ⟨y1, y2⟩ := z
  rw [y1, y2]
  show V (m_L_law L xs) 326 (LL j) [.int b.1, .int b.1] (ov b.2 M1) QT
  exact V.icmp_eq (tgt := 1530) dL_law_326 rfl rfl (fun _ => K _ (RQ_ov z3)) (fun z => absurd rfl z)
theorem c_law_3 {L : Nat} {xs : Nat → Int32} {j : Nat} (hL : L ≤ 3072) (hj : 6 * j + 6 ≤ L) {M : Mem} (hR : RQ (9 * j) M M) (K : ∀ M', RQ (9 * j + 9) M' M' → V (m_L_law L xs) 1530 (LL j) [] M' QT) : V (m_L_law L xs) 331 (LL j) [] M QT := by
  obtain ⟨b, hc, hr⟩ := o_put (B := 9 * j) (by omega) hR (xs (6 * j + 1)) (xs (6 * j + 2))
  refine V.aload_n dL_law_331 rfl rfl rfl ?_
  refine V.aload_n dL_law_332 rfl rfl rfl ?_
  refine V.iload_n dL_law_333 rfl rfl rfl ?_
  refine V.iconst (v := nI 1) dL_law_334 rfl rfl ?_
  refine V.iadd (v := nI (6 * j + 1)) dL_law_335 (nI_add _ _) rfl ?_
  refine V.sald (X := (L, xs)) (v := xs (6 * j + 1)) rfl dL_law_336 (vp_in_nI (by omega) (by omega)) (by rw [nI_clamp (by omega)]) rfl ?_
  refine V.aload_n dL_law_337 rfl rfl rfl ?_
  refine V.iload_n dL_law_338 rfl rfl rfl ?_
  refine V.iconst (v := nI 2) dL_law_339 rfl rfl ?_
  refine V.iadd (v := nI (6 * j + 2)) dL_law_340 (nI_add _ _) rfl ?_
  refine V.sald (X := (L, xs)) (v := xs (6 * j + 2)) rfl dL_law_341 (vp_in_nI (by omega) (by omega)) (by rw [nI_clamp (by omega)]) rfl ?_
  refine V.callv (md' := m_X8_put) (As := [.int (xs (6 * j + 1)), .int (xs (6 * j + 2))]) (rest := []) dL_law_342 ml_L_28 mo_X8_put ⟨Nat.le_of_ble_eq_true rfl, Nat.le_of_ble_eq_true rfl⟩ rfl ⟨_, _, rfl⟩ (Nat.le_of_ble_eq_true rfl) rfl rfl (Nat.le_of_ble_eq_true rfl) hc (fun rv M1 z => ?_)
  obtain ⟨z1, z2, z3⟩ := z
  rw [z1]
  show V (m_L_law L xs) 345 (LL j) [.int b.1] M1 QT
  refine V.aload_n dL_law_345 rfl rfl rfl ?_
  refine V.aload_n dL_law_346 rfl rfl rfl ?_
  refine V.iload_n dL_law_347 rfl rfl rfl ?_
  refine V.iconst (v := nI 1) dL_law_348 rfl rfl ?_
  refine V.iadd (v := nI (6 * j + 1)) dL_law_349 (nI_add _ _) rfl ?_
  refine V.sald (X := (L, xs)) (v := xs (6 * j + 1)) rfl dL_law_350 (vp_in_nI (by omega) (by omega)) (by rw [nI_clamp (by omega)]) rfl ?_
  refine V.aload_n dL_law_351 rfl rfl rfl ?_
  refine V.iload_n dL_law_352 rfl rfl rfl ?_
  refine V.iconst (v := nI 2) dL_law_353 rfl rfl ?_
  refine V.iadd (v := nI (6 * j + 2)) dL_law_354 (nI_add _ _) rfl ?_
  refine V.sald (X := (L, xs)) (v := xs (6 * j + 2)) rfl dL_law_355 (vp_in_nI (by omega) (by omega)) (by rw [nI_clamp (by omega)]) rfl ?_
  refine V.callv (md' := m_X9_put) (As := [.int (xs (6 * j + 1)), .int (xs (6 * j + 2))]) (rest := [.int b.1]) dL_law_356 ml_L_31 mo_X9_put ⟨Nat.le_of_ble_eq_true rfl, Nat.le_of_ble_eq_true rfl⟩ rfl ⟨_, _, rfl⟩ (Nat.le_of_ble_eq_true rfl) rfl rfl (Nat.le_of_ble_eq_true rfl) (hr M1 z2) (fun rv M2 z => ?_)
  obtain ⟨y1, y2⟩ := z
  rw [y1, y2]
  show V (m_L_law L xs) 359 (LL j) [.int b.1, .int b.1] (ov b.2 M1) QT
  exact V.icmp_eq (tgt := 1530) dL_law_359 rfl rfl (fun _ => K _ (RQ_ov z3)) (fun z => absurd rfl z)
theorem c_law_4 {L : Nat} {xs : Nat → Int32} {j : Nat} (hL : L ≤ 3072) (hj : 6 * j + 6 ≤ L) {M : Mem} (hR : RQ (9 * j) M M) (K : ∀ M', RQ (9 * j + 9) M' M' → V (m_L_law L xs) 1530 (LL j) [] M' QT) : V (m_L_law L xs) 364 (LL j) [] M QT := by
  obtain ⟨b, hc, hr⟩ := o_heats (B := 9 * j) (by omega) hR (xs (6 * j + 1)) (xs (6 * j + 2))
  refine V.aload_n dL_law_364 rfl rfl rfl ?_
  refine V.aload_n dL_law_365 rfl rfl rfl ?_
  refine V.iload_n dL_law_366 rfl rfl rfl ?_
  refine V.iconst (v := nI 1) dL_law_367 rfl rfl ?_
  refine V.iadd (v := nI (6 * j + 1)) dL_law_368 (nI_add _ _) rfl ?_
  refine V.sald (X := (L, xs)) (v := xs (6 * j + 1)) rfl dL_law_369 (vp_in_nI (by omega) (by omega)) (by rw [nI_clamp (by omega)]) rfl ?_
  refine V.aload_n dL_law_370 rfl rfl rfl ?_
  refine V.iload_n dL_law_371 rfl rfl rfl ?_
  refine V.iconst (v := nI 2) dL_law_372 rfl rfl ?_
  refine V.iadd (v := nI (6 * j + 2)) dL_law_373 (nI_add _ _) rfl ?_
  refine V.sald (X := (L, xs)) (v := xs (6 * j + 2)) rfl dL_law_374 (vp_in_nI (by omega) (by omega)) (by rw [nI_clamp (by omega)]) rfl ?_
  refine V.callv (md' := m_X8_heats) (As := [.int (xs (6 * j + 1)), .int (xs (6 * j + 2))]) (rest := []) dL_law_375 ml_L_32 mo_X8_heats ⟨Nat.le_of_ble_eq_true rfl, Nat.le_of_ble_eq_true rfl⟩ rfl ⟨_, _, rfl⟩ (Nat.le_of_ble_eq_true rfl) rfl rfl (Nat.le_of_ble_eq_true rfl) hc (fun rv M1 z => ?_)
  obtain ⟨z1, z2, z3⟩ := z
  rw [z1]
  show V (m_L_law L xs) 378 (LL j) [.int b.1] M1 QT
  refine V.aload_n dL_law_378 rfl rfl rfl ?_
  refine V.aload_n dL_law_379 rfl rfl rfl ?_
  refine V.iload_n dL_law_380 rfl rfl rfl ?_
  refine V.iconst (v := nI 1) dL_law_381 rfl rfl ?_
  refine V.iadd (v := nI (6 * j + 1)) dL_law_382 (nI_add _ _) rfl ?_
  refine V.sald (X := (L, xs)) (v := xs (6 * j + 1)) rfl dL_law_383 (vp_in_nI (by omega) (by omega)) (by rw [nI_clamp (by omega)]) rfl ?_
  refine V.aload_n dL_law_384 rfl rfl rfl ?_
  refine V.iload_n dL_law_385 rfl rfl rfl ?_
  refine V.iconst (v := nI 2) dL_law_386 rfl rfl ?_
  refine V.iadd (v := nI (6 * j + 2)) dL_law_387 (nI_add _ _) rfl ?_
  refine V.sald (X := (L, xs)) (v := xs (6 * j + 2)) rfl dL_law_388 (vp_in_nI (by omega) (by omega)) (by rw [nI_clamp (by omega)]) rfl ?_
  refine V.callv (md' := m_X9_heats) (As := [.int (xs (6 * j + 1)), .int (xs (6 * j + 2))]) (rest := [.int b.1]) dL_law_389 ml_L_35 mo_X9_heats ⟨Nat.le_of_ble_eq_true rfl, Nat.le_of_ble_eq_true rfl⟩ rfl ⟨_, _, rfl⟩ (Nat.le_of_ble_eq_true rfl) rfl rfl (Nat.le_of_ble_eq_true rfl) (hr M1 z2) (fun rv M2 z => ?_)
  obtain ⟨y1, y2⟩ := z
  rw [y1, y2]
  show V (m_L_law L xs) 392 (LL j) [.int b.1, .int b.1] (ov b.2 M1) QT
  exact V.icmp_eq (tgt := 1530) dL_law_392 rfl rfl (fun _ => K _ (RQ_ov z3)) (fun z => absurd rfl z)
theorem c_law_5 {L : Nat} {xs : Nat → Int32} {j : Nat} (hL : L ≤ 3072) (hj : 6 * j + 6 ≤ L) {M : Mem} (hR : RQ (9 * j) M M) (K : ∀ M', RQ (9 * j + 9) M' M' → V (m_L_law L xs) 1530 (LL j) [] M' QT) : V (m_L_law L xs) 397 (LL j) [] M QT := by
  obtain ⟨b, hc, hr⟩ := o_how (B := 9 * j) (by omega) hR (xs (6 * j + 1))
  refine V.aload_n dL_law_397 rfl rfl rfl ?_
  refine V.aload_n dL_law_398 rfl rfl rfl ?_
  refine V.iload_n dL_law_399 rfl rfl rfl ?_
  refine V.iconst (v := nI 1) dL_law_400 rfl rfl ?_
  refine V.iadd (v := nI (6 * j + 1)) dL_law_401 (nI_add _ _) rfl ?_
  refine V.sald (X := (L, xs)) (v := xs (6 * j + 1)) rfl dL_law_402 (vp_in_nI (by omega) (by omega)) (by rw [nI_clamp (by omega)]) rfl ?_
  refine V.callv (md' := m_X8_how) (As := [.int (xs (6 * j + 1))]) (rest := []) dL_law_403 ml_L_36 mo_X8_how ⟨Nat.le_of_ble_eq_true rfl, Nat.le_of_ble_eq_true rfl⟩ rfl ⟨_, _, rfl⟩ (Nat.le_of_ble_eq_true rfl) rfl rfl (Nat.le_of_ble_eq_true rfl) hc (fun rv M1 z => ?_)
  obtain ⟨z1, z2, z3⟩ := z
  rw [z1]
  show V (m_L_law L xs) 406 (LL j) [.int b.1] M1 QT
  refine V.aload_n dL_law_406 rfl rfl rfl ?_
  refine V.aload_n dL_law_407 rfl rfl rfl ?_
  refine V.iload_n dL_law_408 rfl rfl rfl ?_
  refine V.iconst (v := nI 1) dL_law_409 rfl rfl ?_
  refine V.iadd (v := nI (6 * j + 1)) dL_law_410 (nI_add _ _) rfl ?_
  refine V.sald (X := (L, xs)) (v := xs (6 * j + 1)) rfl dL_law_411 (vp_in_nI (by omega) (by omega)) (by rw [nI_clamp (by omega)]) rfl ?_
  refine V.callv (md' := m_X9_how) (As := [.int (xs (6 * j + 1))]) (rest := [.int b.1]) dL_law_412 ml_L_39 mo_X9_how ⟨Nat.le_of_ble_eq_true rfl, Nat.le_of_ble_eq_true rfl⟩ rfl ⟨_, _, rfl⟩ (Nat.le_of_ble_eq_true rfl) rfl rfl (Nat.le_of_ble_eq_true rfl) (hr M1 z2) (fun rv M2 z => ?_)
  obtain ⟨y1, y2⟩ := z
  rw [y1, y2]
  show V (m_L_law L xs) 415 (LL j) [.int b.1, .int b.1] (ov b.2 M1) QT
  exact V.icmp_eq (tgt := 1530) dL_law_415 rfl rfl (fun _ => K _ (RQ_ov z3)) (fun z => absurd rfl z)
theorem c_law_6 {L : Nat} {xs : Nat → Int32} {j : Nat} (hL : L ≤ 3072) (hj : 6 * j + 6 ≤ L) {M : Mem} (hR : RQ (9 * j) M M) (K : ∀ M', RQ (9 * j + 9) M' M' → V (m_L_law L xs) 1530 (LL j) [] M' QT) : V (m_L_law L xs) 420 (LL j) [] M QT := by
  obtain ⟨b, hc, hr⟩ := o_shovel (B := 9 * j) (by omega) hR (xs (6 * j + 1))
  refine V.aload_n dL_law_420 rfl rfl rfl ?_
  refine V.aload_n dL_law_421 rfl rfl rfl ?_
  refine V.iload_n dL_law_422 rfl rfl rfl ?_
  refine V.iconst (v := nI 1) dL_law_423 rfl rfl ?_
  refine V.iadd (v := nI (6 * j + 1)) dL_law_424 (nI_add _ _) rfl ?_
  refine V.sald (X := (L, xs)) (v := xs (6 * j + 1)) rfl dL_law_425 (vp_in_nI (by omega) (by omega)) (by rw [nI_clamp (by omega)]) rfl ?_
  refine V.callv (md' := m_X8_shovel) (As := [.int (xs (6 * j + 1))]) (rest := []) dL_law_426 ml_L_40 mo_X8_shovel ⟨Nat.le_of_ble_eq_true rfl, Nat.le_of_ble_eq_true rfl⟩ rfl ⟨_, _, rfl⟩ (Nat.le_of_ble_eq_true rfl) rfl rfl (Nat.le_of_ble_eq_true rfl) hc (fun rv M1 z => ?_)
  obtain ⟨z1, z2, z3⟩ := z
  rw [z1]
  show V (m_L_law L xs) 429 (LL j) [.int b.1] M1 QT
  refine V.aload_n dL_law_429 rfl rfl rfl ?_
  refine V.aload_n dL_law_430 rfl rfl rfl ?_
  refine V.iload_n dL_law_431 rfl rfl rfl ?_
  refine V.iconst (v := nI 1) dL_law_432 rfl rfl ?_
  refine V.iadd (v := nI (6 * j + 1)) dL_law_433 (nI_add _ _) rfl ?_
  refine V.sald (X := (L, xs)) (v := xs (6 * j + 1)) rfl dL_law_434 (vp_in_nI (by omega) (by omega)) (by rw [nI_clamp (by omega)]) rfl ?_
  refine V.callv (md' := m_X9_shovel) (As := [.int (xs (6 * j + 1))]) (rest := [.int b.1]) dL_law_435 ml_L_43 mo_X9_shovel ⟨Nat.le_of_ble_eq_true rfl, Nat.le_of_ble_eq_true rfl⟩ rfl ⟨_, _, rfl⟩ (Nat.le_of_ble_eq_true rfl) rfl rfl (Nat.le_of_ble_eq_true rfl) (hr M1 z2) (fun rv M2 z => ?_)
  obtain ⟨y1, y2⟩ := z
  rw [y1, y2]
  show V (m_L_law L xs) 438 (LL j) [.int b.1, .int b.1] (ov b.2 M1) QT
  exact V.icmp_eq (tgt := 1530) dL_law_438 rfl rfl (fun _ => K _ (RQ_ov z3)) (fun z => absurd rfl z)
theorem c_law_7 {L : Nat} {xs : Nat → Int32} {j : Nat} (hL : L ≤ 3072) (hj : 6 * j + 6 ≤ L) {M : Mem} (hR : RQ (9 * j) M M) (K : ∀ M', RQ (9 * j + 9) M' M' → V (m_L_law L xs) 1530 (LL j) [] M' QT) : V (m_L_law L xs) 443 (LL j) [] M QT := by
  obtain ⟨b, hc, hr⟩ := o_rule (B := 9 * j) (by omega) hR (xs (6 * j + 1)) (xs (6 * j + 2))
  refine V.aload_n dL_law_443 rfl rfl rfl ?_
  refine V.aload_n dL_law_444 rfl rfl rfl ?_
  refine V.iload_n dL_law_445 rfl rfl rfl ?_
  refine V.iconst (v := nI 1) dL_law_446 rfl rfl ?_
  refine V.iadd (v := nI (6 * j + 1)) dL_law_447 (nI_add _ _) rfl ?_
  refine V.sald (X := (L, xs)) (v := xs (6 * j + 1)) rfl dL_law_448 (vp_in_nI (by omega) (by omega)) (by rw [nI_clamp (by omega)]) rfl ?_
  refine V.aload_n dL_law_449 rfl rfl rfl ?_
  refine V.iload_n dL_law_450 rfl rfl rfl ?_
  refine V.iconst (v := nI 2) dL_law_451 rfl rfl ?_
  refine V.iadd (v := nI (6 * j + 2)) dL_law_452 (nI_add _ _) rfl ?_
  refine V.sald (X := (L, xs)) (v := xs (6 * j + 2)) rfl dL_law_453 (vp_in_nI (by omega) (by omega)) (by rw [nI_clamp (by omega)]) rfl ?_
  refine V.callv (md' := m_X8_rule) (As := [.int (xs (6 * j + 1)), .int (xs (6 * j + 2))]) (rest := []) dL_law_454 ml_L_44 mo_X8_rule ⟨Nat.le_of_ble_eq_true rfl, Nat.le_of_ble_eq_true rfl⟩ rfl ⟨_, _, rfl⟩ (Nat.le_of_ble_eq_true rfl) rfl rfl (Nat.le_of_ble_eq_true rfl) hc (fun rv M1 z => ?_)
  obtain ⟨z1, z2, z3⟩ := z
  rw [z1]
  show V (m_L_law L xs) 457 (LL j) [.int b.1] M1 QT
  refine V.aload_n dL_law_457 rfl rfl rfl ?_
  refine V.aload_n dL_law_458 rfl rfl rfl ?_
  refine V.iload_n dL_law_459 rfl rfl rfl ?_
  refine V.iconst (v := nI 1) dL_law_460 rfl rfl ?_
  refine V.iadd (v := nI (6 * j + 1)) dL_law_461 (nI_add _ _) rfl ?_
  refine V.sald (X := (L, xs)) (v := xs (6 * j + 1)) rfl dL_law_462 (vp_in_nI (by omega) (by omega)) (by rw [nI_clamp (by omega)]) rfl ?_
  refine V.aload_n dL_law_463 rfl rfl rfl ?_
  refine V.iload_n dL_law_464 rfl rfl rfl ?_
  refine V.iconst (v := nI 2) dL_law_465 rfl rfl ?_
  refine V.iadd (v := nI (6 * j + 2)) dL_law_466 (nI_add _ _) rfl ?_
  refine V.sald (X := (L, xs)) (v := xs (6 * j + 2)) rfl dL_law_467 (vp_in_nI (by omega) (by omega)) (by rw [nI_clamp (by omega)]) rfl ?_
  refine V.callv (md' := m_X9_rule) (As := [.int (xs (6 * j + 1)), .int (xs (6 * j + 2))]) (rest := [.int b.1]) dL_law_468 ml_L_47 mo_X9_rule ⟨Nat.le_of_ble_eq_true rfl, Nat.le_of_ble_eq_true rfl⟩ rfl ⟨_, _, rfl⟩ (Nat.le_of_ble_eq_true rfl) rfl rfl (Nat.le_of_ble_eq_true rfl) (hr M1 z2) (fun rv M2 z => ?_)
  obtain ⟨y1, y2⟩ := z
  rw [y1, y2]
  show V (m_L_law L xs) 471 (LL j) [.int b.1, .int b.1] (ov b.2 M1) QT
  exact V.icmp_eq (tgt := 1530) dL_law_471 rfl rfl (fun _ => K _ (RQ_ov z3)) (fun z => absurd rfl z)
theorem c_law_8 {L : Nat} {xs : Nat → Int32} {j : Nat} (hL : L ≤ 3072) (hj : 6 * j + 6 ≤ L) {M : Mem} (hR : RQ (9 * j) M M) (K : ∀ M', RQ (9 * j + 9) M' M' → V (m_L_law L xs) 1530 (LL j) [] M' QT) : V (m_L_law L xs) 476 (LL j) [] M QT := by
  obtain ⟨b, hc, hr⟩ := o_walk (B := 9 * j) (by omega) hR (xs (6 * j + 1))
  refine V.aload_n dL_law_476 rfl rfl rfl ?_
  refine V.aload_n dL_law_477 rfl rfl rfl ?_
  refine V.iload_n dL_law_478 rfl rfl rfl ?_
  refine V.iconst (v := nI 1) dL_law_479 rfl rfl ?_
  refine V.iadd (v := nI (6 * j + 1)) dL_law_480 (nI_add _ _) rfl ?_
  refine V.sald (X := (L, xs)) (v := xs (6 * j + 1)) rfl dL_law_481 (vp_in_nI (by omega) (by omega)) (by rw [nI_clamp (by omega)]) rfl ?_
  refine V.callv (md' := m_X8_walk) (As := [.int (xs (6 * j + 1))]) (rest := []) dL_law_482 ml_L_48 mo_X8_walk ⟨Nat.le_of_ble_eq_true rfl, Nat.le_of_ble_eq_true rfl⟩ rfl ⟨_, _, rfl⟩ (Nat.le_of_ble_eq_true rfl) rfl rfl (Nat.le_of_ble_eq_true rfl) hc (fun rv M1 z => ?_)
  obtain ⟨z1, z2, z3⟩ := z
  rw [z1]
  show V (m_L_law L xs) 485 (LL j) [.int b.1] M1 QT
  refine V.aload_n dL_law_485 rfl rfl rfl ?_
  refine V.aload_n dL_law_486 rfl rfl rfl ?_
  refine V.iload_n dL_law_487 rfl rfl rfl ?_
  refine V.iconst (v := nI 1) dL_law_488 rfl rfl ?_
  refine V.iadd (v := nI (6 * j + 1)) dL_law_489 (nI_add _ _) rfl ?_
  refine V.sald (X := (L, xs)) (v := xs (6 * j + 1)) rfl dL_law_490 (vp_in_nI (by omega) (by omega)) (by rw [nI_clamp (by omega)]) rfl ?_
  refine V.callv (md' := m_X9_walk) (As := [.int (xs (6 * j + 1))]) (rest := [.int b.1]) dL_law_491 ml_L_51 mo_X9_walk ⟨Nat.le_of_ble_eq_true rfl, Nat.le_of_ble_eq_true rfl⟩ rfl ⟨_, _, rfl⟩ (Nat.le_of_ble_eq_true rfl) rfl rfl (Nat.le_of_ble_eq_true rfl) (hr M1 z2) (fun rv M2 z => ?_)
  obtain ⟨y1, y2⟩ := z
  rw [y1, y2]
  show V (m_L_law L xs) 494 (LL j) [.int b.1, .int b.1] (ov b.2 M1) QT
  exact V.icmp_eq (tgt := 1530) dL_law_494 rfl rfl (fun _ => K _ (RQ_ov z3)) (fun z => absurd rfl z)
theorem c_law_9 {L : Nat} {xs : Nat → Int32} {j : Nat} (hL : L ≤ 3072) (hj : 6 * j + 6 ≤ L) {M : Mem} (hR : RQ (9 * j) M M) (K : ∀ M', RQ (9 * j + 9) M' M' → V (m_L_law L xs) 1530 (LL j) [] M' QT) : V (m_L_law L xs) 499 (LL j) [] M QT := by
  obtain ⟨b, hc, hr⟩ := o_crowd (B := 9 * j) (by omega) hR (xs (6 * j + 1)) (xs (6 * j + 2)) (xs (6 * j + 3))
  refine V.aload_n dL_law_499 rfl rfl rfl ?_
  refine V.aload_n dL_law_500 rfl rfl rfl ?_
  refine V.iload_n dL_law_501 rfl rfl rfl ?_
  refine V.iconst (v := nI 1) dL_law_502 rfl rfl ?_
  refine V.iadd (v := nI (6 * j + 1)) dL_law_503 (nI_add _ _) rfl ?_
  refine V.sald (X := (L, xs)) (v := xs (6 * j + 1)) rfl dL_law_504 (vp_in_nI (by omega) (by omega)) (by rw [nI_clamp (by omega)]) rfl ?_
  refine V.aload_n dL_law_505 rfl rfl rfl ?_
  refine V.iload_n dL_law_506 rfl rfl rfl ?_
  refine V.iconst (v := nI 2) dL_law_507 rfl rfl ?_
  refine V.iadd (v := nI (6 * j + 2)) dL_law_508 (nI_add _ _) rfl ?_
  refine V.sald (X := (L, xs)) (v := xs (6 * j + 2)) rfl dL_law_509 (vp_in_nI (by omega) (by omega)) (by rw [nI_clamp (by omega)]) rfl ?_
  refine V.aload_n dL_law_510 rfl rfl rfl ?_
  refine V.iload_n dL_law_511 rfl rfl rfl ?_
  refine V.iconst (v := nI 3) dL_law_512 rfl rfl ?_
  refine V.iadd (v := nI (6 * j + 3)) dL_law_513 (nI_add _ _) rfl ?_
  refine V.sald (X := (L, xs)) (v := xs (6 * j + 3)) rfl dL_law_514 (vp_in_nI (by omega) (by omega)) (by rw [nI_clamp (by omega)]) rfl ?_
  refine V.callv (md' := m_X8_crowd) (As := [.int (xs (6 * j + 1)), .int (xs (6 * j + 2)), .int (xs (6 * j + 3))]) (rest := []) dL_law_515 ml_L_52 mo_X8_crowd ⟨Nat.le_of_ble_eq_true rfl, Nat.le_of_ble_eq_true rfl⟩ rfl ⟨_, _, rfl⟩ (Nat.le_of_ble_eq_true rfl) rfl rfl (Nat.le_of_ble_eq_true rfl) hc (fun rv M1 z => ?_)
  obtain ⟨z1, z2, z3⟩ := z
  rw [z1]
  show V (m_L_law L xs) 518 (LL j) [.int b.1] M1 QT
  refine V.aload_n dL_law_518 rfl rfl rfl ?_
  refine V.aload_n dL_law_519 rfl rfl rfl ?_
  refine V.iload_n dL_law_520 rfl rfl rfl ?_
  refine V.iconst (v := nI 1) dL_law_521 rfl rfl ?_
  refine V.iadd (v := nI (6 * j + 1)) dL_law_522 (nI_add _ _) rfl ?_
  refine V.sald (X := (L, xs)) (v := xs (6 * j + 1)) rfl dL_law_523 (vp_in_nI (by omega) (by omega)) (by rw [nI_clamp (by omega)]) rfl ?_
  refine V.aload_n dL_law_524 rfl rfl rfl ?_
  refine V.iload_n dL_law_525 rfl rfl rfl ?_
  refine V.iconst (v := nI 2) dL_law_526 rfl rfl ?_
  refine V.iadd (v := nI (6 * j + 2)) dL_law_527 (nI_add _ _) rfl ?_
  refine V.sald (X := (L, xs)) (v := xs (6 * j + 2)) rfl dL_law_528 (vp_in_nI (by omega) (by omega)) (by rw [nI_clamp (by omega)]) rfl ?_
  refine V.aload_n dL_law_529 rfl rfl rfl ?_
  refine V.iload_n dL_law_530 rfl rfl rfl ?_
  refine V.iconst (v := nI 3) dL_law_531 rfl rfl ?_
  refine V.iadd (v := nI (6 * j + 3)) dL_law_532 (nI_add _ _) rfl ?_
  refine V.sald (X := (L, xs)) (v := xs (6 * j + 3)) rfl dL_law_533 (vp_in_nI (by omega) (by omega)) (by rw [nI_clamp (by omega)]) rfl ?_
  refine V.callv (md' := m_X9_crowd) (As := [.int (xs (6 * j + 1)), .int (xs (6 * j + 2)), .int (xs (6 * j + 3))]) (rest := [.int b.1]) dL_law_534 ml_L_55 mo_X9_crowd ⟨Nat.le_of_ble_eq_true rfl, Nat.le_of_ble_eq_true rfl⟩ rfl ⟨_, _, rfl⟩ (Nat.le_of_ble_eq_true rfl) rfl rfl (Nat.le_of_ble_eq_true rfl) (hr M1 z2) (fun rv M2 z => ?_)
  obtain ⟨y1, y2⟩ := z
  rw [y1, y2]
  show V (m_L_law L xs) 537 (LL j) [.int b.1, .int b.1] (ov b.2 M1) QT
  exact V.icmp_eq (tgt := 1530) dL_law_537 rfl rfl (fun _ => K _ (RQ_ov z3)) (fun z => absurd rfl z)
theorem c_law_10 {L : Nat} {xs : Nat → Int32} {j : Nat} (hL : L ≤ 3072) (hj : 6 * j + 6 ≤ L) {M : Mem} (hR : RQ (9 * j) M M) (K : ∀ M', RQ (9 * j + 9) M' M' → V (m_L_law L xs) 1530 (LL j) [] M' QT) : V (m_L_law L xs) 542 (LL j) [] M QT := by
  obtain ⟨b, hc, hr⟩ := o_crowdOf (B := 9 * j) (by omega) hR (xs (6 * j + 1)) (xs (6 * j + 2))
  refine V.aload_n dL_law_542 rfl rfl rfl ?_
  refine V.aload_n dL_law_543 rfl rfl rfl ?_
  refine V.iload_n dL_law_544 rfl rfl rfl ?_
  refine V.iconst (v := nI 1) dL_law_545 rfl rfl ?_
  refine V.iadd (v := nI (6 * j + 1)) dL_law_546 (nI_add _ _) rfl ?_
  refine V.sald (X := (L, xs)) (v := xs (6 * j + 1)) rfl dL_law_547 (vp_in_nI (by omega) (by omega)) (by rw [nI_clamp (by omega)]) rfl ?_
  refine V.aload_n dL_law_548 rfl rfl rfl ?_
  refine V.iload_n dL_law_549 rfl rfl rfl ?_
  refine V.iconst (v := nI 2) dL_law_550 rfl rfl ?_
  refine V.iadd (v := nI (6 * j + 2)) dL_law_551 (nI_add _ _) rfl ?_
  refine V.sald (X := (L, xs)) (v := xs (6 * j + 2)) rfl dL_law_552 (vp_in_nI (by omega) (by omega)) (by rw [nI_clamp (by omega)]) rfl ?_
  refine V.callv (md' := m_X8_crowdOf) (As := [.int (xs (6 * j + 1)), .int (xs (6 * j + 2))]) (rest := []) dL_law_553 ml_L_56 mo_X8_crowdOf ⟨Nat.le_of_ble_eq_true rfl, Nat.le_of_ble_eq_true rfl⟩ rfl ⟨_, _, rfl⟩ (Nat.le_of_ble_eq_true rfl) rfl rfl (Nat.le_of_ble_eq_true rfl) hc (fun rv M1 z => ?_)
  obtain ⟨z1, z2, z3⟩ := z
  rw [z1]
  show V (m_L_law L xs) 556 (LL j) [.int b.1] M1 QT
  refine V.aload_n dL_law_556 rfl rfl rfl ?_
  refine V.aload_n dL_law_557 rfl rfl rfl ?_
  refine V.iload_n dL_law_558 rfl rfl rfl ?_
  refine V.iconst (v := nI 1) dL_law_559 rfl rfl ?_
  refine V.iadd (v := nI (6 * j + 1)) dL_law_560 (nI_add _ _) rfl ?_
  refine V.sald (X := (L, xs)) (v := xs (6 * j + 1)) rfl dL_law_561 (vp_in_nI (by omega) (by omega)) (by rw [nI_clamp (by omega)]) rfl ?_
  refine V.aload_n dL_law_562 rfl rfl rfl ?_
  refine V.iload_n dL_law_563 rfl rfl rfl ?_
  refine V.iconst (v := nI 2) dL_law_564 rfl rfl ?_
  refine V.iadd (v := nI (6 * j + 2)) dL_law_565 (nI_add _ _) rfl ?_
  refine V.sald (X := (L, xs)) (v := xs (6 * j + 2)) rfl dL_law_566 (vp_in_nI (by omega) (by omega)) (by rw [nI_clamp (by omega)]) rfl ?_
  refine V.callv (md' := m_X9_crowdOf) (As := [.int (xs (6 * j + 1)), .int (xs (6 * j + 2))]) (rest := [.int b.1]) dL_law_567 ml_L_59 mo_X9_crowdOf ⟨Nat.le_of_ble_eq_true rfl, Nat.le_of_ble_eq_true rfl⟩ rfl ⟨_, _, rfl⟩ (Nat.le_of_ble_eq_true rfl) rfl rfl (Nat.le_of_ble_eq_true rfl) (hr M1 z2) (fun rv M2 z => ?_)
  obtain ⟨y1, y2⟩ := z
  rw [y1, y2]
  show V (m_L_law L xs) 570 (LL j) [.int b.1, .int b.1] (ov b.2 M1) QT
  exact V.icmp_eq (tgt := 1530) dL_law_570 rfl rfl (fun _ => K _ (RQ_ov z3)) (fun z => absurd rfl z)
theorem c_law_11 {L : Nat} {xs : Nat → Int32} {j : Nat} (hL : L ≤ 3072) (hj : 6 * j + 6 ≤ L) {M : Mem} (hR : RQ (9 * j) M M) (K : ∀ M', RQ (9 * j + 9) M' M' → V (m_L_law L xs) 1530 (LL j) [] M' QT) : V (m_L_law L xs) 575 (LL j) [] M QT := by
  obtain ⟨b, hc, hr⟩ := o_late (B := 9 * j) (by omega) hR (xs (6 * j + 1)) (xs (6 * j + 2)) (xs (6 * j + 3))
  refine V.aload_n dL_law_575 rfl rfl rfl ?_
  refine V.aload_n dL_law_576 rfl rfl rfl ?_
  refine V.iload_n dL_law_577 rfl rfl rfl ?_
  refine V.iconst (v := nI 1) dL_law_578 rfl rfl ?_
  refine V.iadd (v := nI (6 * j + 1)) dL_law_579 (nI_add _ _) rfl ?_
  refine V.sald (X := (L, xs)) (v := xs (6 * j + 1)) rfl dL_law_580 (vp_in_nI (by omega) (by omega)) (by rw [nI_clamp (by omega)]) rfl ?_
  refine V.aload_n dL_law_581 rfl rfl rfl ?_
  refine V.iload_n dL_law_582 rfl rfl rfl ?_
  refine V.iconst (v := nI 2) dL_law_583 rfl rfl ?_
  refine V.iadd (v := nI (6 * j + 2)) dL_law_584 (nI_add _ _) rfl ?_
  refine V.sald (X := (L, xs)) (v := xs (6 * j + 2)) rfl dL_law_585 (vp_in_nI (by omega) (by omega)) (by rw [nI_clamp (by omega)]) rfl ?_
  refine V.aload_n dL_law_586 rfl rfl rfl ?_
  refine V.iload_n dL_law_587 rfl rfl rfl ?_
  refine V.iconst (v := nI 3) dL_law_588 rfl rfl ?_
  refine V.iadd (v := nI (6 * j + 3)) dL_law_589 (nI_add _ _) rfl ?_
  refine V.sald (X := (L, xs)) (v := xs (6 * j + 3)) rfl dL_law_590 (vp_in_nI (by omega) (by omega)) (by rw [nI_clamp (by omega)]) rfl ?_
  refine V.callv (md' := m_X8_late) (As := [.int (xs (6 * j + 1)), .int (xs (6 * j + 2)), .int (xs (6 * j + 3))]) (rest := []) dL_law_591 ml_L_60 mo_X8_late ⟨Nat.le_of_ble_eq_true rfl, Nat.le_of_ble_eq_true rfl⟩ rfl ⟨_, _, rfl⟩ (Nat.le_of_ble_eq_true rfl) rfl rfl (Nat.le_of_ble_eq_true rfl) hc (fun rv M1 z => ?_)
  obtain ⟨z1, z2, z3⟩ := z
  rw [z1]
  show V (m_L_law L xs) 594 (LL j) [.int b.1] M1 QT
  refine V.aload_n dL_law_594 rfl rfl rfl ?_
  refine V.aload_n dL_law_595 rfl rfl rfl ?_
  refine V.iload_n dL_law_596 rfl rfl rfl ?_
  refine V.iconst (v := nI 1) dL_law_597 rfl rfl ?_
  refine V.iadd (v := nI (6 * j + 1)) dL_law_598 (nI_add _ _) rfl ?_
  refine V.sald (X := (L, xs)) (v := xs (6 * j + 1)) rfl dL_law_599 (vp_in_nI (by omega) (by omega)) (by rw [nI_clamp (by omega)]) rfl ?_
  refine V.aload_n dL_law_600 rfl rfl rfl ?_
  refine V.iload_n dL_law_601 rfl rfl rfl ?_
  refine V.iconst (v := nI 2) dL_law_602 rfl rfl ?_
  refine V.iadd (v := nI (6 * j + 2)) dL_law_603 (nI_add _ _) rfl ?_
  refine V.sald (X := (L, xs)) (v := xs (6 * j + 2)) rfl dL_law_604 (vp_in_nI (by omega) (by omega)) (by rw [nI_clamp (by omega)]) rfl ?_
  refine V.aload_n dL_law_605 rfl rfl rfl ?_
  refine V.iload_n dL_law_606 rfl rfl rfl ?_
  refine V.iconst (v := nI 3) dL_law_607 rfl rfl ?_
  refine V.iadd (v := nI (6 * j + 3)) dL_law_608 (nI_add _ _) rfl ?_
  refine V.sald (X := (L, xs)) (v := xs (6 * j + 3)) rfl dL_law_609 (vp_in_nI (by omega) (by omega)) (by rw [nI_clamp (by omega)]) rfl ?_
  refine V.callv (md' := m_X9_late) (As := [.int (xs (6 * j + 1)), .int (xs (6 * j + 2)), .int (xs (6 * j + 3))]) (rest := [.int b.1]) dL_law_610 ml_L_63 mo_X9_late ⟨Nat.le_of_ble_eq_true rfl, Nat.le_of_ble_eq_true rfl⟩ rfl ⟨_, _, rfl⟩ (Nat.le_of_ble_eq_true rfl) rfl rfl (Nat.le_of_ble_eq_true rfl) (hr M1 z2) (fun rv M2 z => ?_)
  obtain ⟨y1, y2⟩ := z
  rw [y1, y2]
  show V (m_L_law L xs) 613 (LL j) [.int b.1, .int b.1] (ov b.2 M1) QT
  exact V.icmp_eq (tgt := 1530) dL_law_613 rfl rfl (fun _ => K _ (RQ_ov z3)) (fun z => absurd rfl z)
theorem c_law_12 {L : Nat} {xs : Nat → Int32} {j : Nat} (hL : L ≤ 3072) (hj : 6 * j + 6 ≤ L) {M : Mem} (hR : RQ (9 * j) M M) (K : ∀ M', RQ (9 * j + 9) M' M' → V (m_L_law L xs) 1530 (LL j) [] M' QT) : V (m_L_law L xs) 618 (LL j) [] M QT := by
  obtain ⟨b, hc, hr⟩ := o_minutes (B := 9 * j) (by omega) hR (xs (6 * j + 1))
  refine V.aload_n dL_law_618 rfl rfl rfl ?_
  refine V.aload_n dL_law_619 rfl rfl rfl ?_
  refine V.iload_n dL_law_620 rfl rfl rfl ?_
  refine V.iconst (v := nI 1) dL_law_621 rfl rfl ?_
  refine V.iadd (v := nI (6 * j + 1)) dL_law_622 (nI_add _ _) rfl ?_
  refine V.sald (X := (L, xs)) (v := xs (6 * j + 1)) rfl dL_law_623 (vp_in_nI (by omega) (by omega)) (by rw [nI_clamp (by omega)]) rfl ?_
  refine V.callv (md' := m_X8_minutes) (As := [.int (xs (6 * j + 1))]) (rest := []) dL_law_624 ml_L_64 mo_X8_minutes ⟨Nat.le_of_ble_eq_true rfl, Nat.le_of_ble_eq_true rfl⟩ rfl ⟨_, _, rfl⟩ (Nat.le_of_ble_eq_true rfl) rfl rfl (Nat.le_of_ble_eq_true rfl) hc (fun rv M1 z => ?_)
  obtain ⟨z1, z2, z3⟩ := z
  rw [z1]
  show V (m_L_law L xs) 627 (LL j) [.int b.1] M1 QT
  refine V.aload_n dL_law_627 rfl rfl rfl ?_
  refine V.aload_n dL_law_628 rfl rfl rfl ?_
  refine V.iload_n dL_law_629 rfl rfl rfl ?_
  refine V.iconst (v := nI 1) dL_law_630 rfl rfl ?_
  refine V.iadd (v := nI (6 * j + 1)) dL_law_631 (nI_add _ _) rfl ?_
  refine V.sald (X := (L, xs)) (v := xs (6 * j + 1)) rfl dL_law_632 (vp_in_nI (by omega) (by omega)) (by rw [nI_clamp (by omega)]) rfl ?_
  refine V.callv (md' := m_X9_minutes) (As := [.int (xs (6 * j + 1))]) (rest := [.int b.1]) dL_law_633 ml_L_67 mo_X9_minutes ⟨Nat.le_of_ble_eq_true rfl, Nat.le_of_ble_eq_true rfl⟩ rfl ⟨_, _, rfl⟩ (Nat.le_of_ble_eq_true rfl) rfl rfl (Nat.le_of_ble_eq_true rfl) (hr M1 z2) (fun rv M2 z => ?_)
  obtain ⟨y1, y2⟩ := z
  rw [y1, y2]
  show V (m_L_law L xs) 636 (LL j) [.int b.1, .int b.1] (ov b.2 M1) QT
  exact V.icmp_eq (tgt := 1530) dL_law_636 rfl rfl (fun _ => K _ (RQ_ov z3)) (fun z => absurd rfl z)
theorem c_law_13 {L : Nat} {xs : Nat → Int32} {j : Nat} (hL : L ≤ 3072) (hj : 6 * j + 6 ≤ L) {M : Mem} (hR : RQ (9 * j) M M) (K : ∀ M', RQ (9 * j + 9) M' M' → V (m_L_law L xs) 1530 (LL j) [] M' QT) : V (m_L_law L xs) 641 (LL j) [] M QT := by
  obtain ⟨b, hc, hr⟩ := o_now (B := 9 * j) (by omega) hR (xs (6 * j + 1))
  refine V.aload_n dL_law_641 rfl rfl rfl ?_
  refine V.aload_n dL_law_642 rfl rfl rfl ?_
  refine V.iload_n dL_law_643 rfl rfl rfl ?_
  refine V.iconst (v := nI 1) dL_law_644 rfl rfl ?_
  refine V.iadd (v := nI (6 * j + 1)) dL_law_645 (nI_add _ _) rfl ?_
  refine V.sald (X := (L, xs)) (v := xs (6 * j + 1)) rfl dL_law_646 (vp_in_nI (by omega) (by omega)) (by rw [nI_clamp (by omega)]) rfl ?_
  refine V.callv (md' := m_X8_now) (As := [.int (xs (6 * j + 1))]) (rest := []) dL_law_647 ml_L_68 mo_X8_now ⟨Nat.le_of_ble_eq_true rfl, Nat.le_of_ble_eq_true rfl⟩ rfl ⟨_, _, rfl⟩ (Nat.le_of_ble_eq_true rfl) rfl rfl (Nat.le_of_ble_eq_true rfl) hc (fun rv M1 z => ?_)
  obtain ⟨z1, z2, z3⟩ := z
  rw [z1]
  show V (m_L_law L xs) 650 (LL j) [.int b.1] M1 QT
  refine V.aload_n dL_law_650 rfl rfl rfl ?_
  refine V.aload_n dL_law_651 rfl rfl rfl ?_
  refine V.iload_n dL_law_652 rfl rfl rfl ?_
  refine V.iconst (v := nI 1) dL_law_653 rfl rfl ?_
  refine V.iadd (v := nI (6 * j + 1)) dL_law_654 (nI_add _ _) rfl ?_
  refine V.sald (X := (L, xs)) (v := xs (6 * j + 1)) rfl dL_law_655 (vp_in_nI (by omega) (by omega)) (by rw [nI_clamp (by omega)]) rfl ?_
  refine V.callv (md' := m_X9_now) (As := [.int (xs (6 * j + 1))]) (rest := [.int b.1]) dL_law_656 ml_L_71 mo_X9_now ⟨Nat.le_of_ble_eq_true rfl, Nat.le_of_ble_eq_true rfl⟩ rfl ⟨_, _, rfl⟩ (Nat.le_of_ble_eq_true rfl) rfl rfl (Nat.le_of_ble_eq_true rfl) (hr M1 z2) (fun rv M2 z => ?_)
  obtain ⟨y1, y2⟩ := z
  rw [y1, y2]
  show V (m_L_law L xs) 659 (LL j) [.int b.1, .int b.1] (ov b.2 M1) QT
  exact V.icmp_eq (tgt := 1530) dL_law_659 rfl rfl (fun _ => K _ (RQ_ov z3)) (fun z => absurd rfl z)
theorem c_law_14 {L : Nat} {xs : Nat → Int32} {j : Nat} (hL : L ≤ 3072) (hj : 6 * j + 6 ≤ L) {M : Mem} (hR : RQ (9 * j) M M) (K : ∀ M', RQ (9 * j + 9) M' M' → V (m_L_law L xs) 1530 (LL j) [] M' QT) : V (m_L_law L xs) 664 (LL j) [] M QT := by
  obtain ⟨b, hc, hr⟩ := o_at (B := 9 * j) (by omega) hR (xs (6 * j + 1))
  refine V.aload_n dL_law_664 rfl rfl rfl ?_
  refine V.aload_n dL_law_665 rfl rfl rfl ?_
  refine V.iload_n dL_law_666 rfl rfl rfl ?_
  refine V.iconst (v := nI 1) dL_law_667 rfl rfl ?_
  refine V.iadd (v := nI (6 * j + 1)) dL_law_668 (nI_add _ _) rfl ?_
  refine V.sald (X := (L, xs)) (v := xs (6 * j + 1)) rfl dL_law_669 (vp_in_nI (by omega) (by omega)) (by rw [nI_clamp (by omega)]) rfl ?_
  refine V.callv (md' := m_X8_at) (As := [.int (xs (6 * j + 1))]) (rest := []) dL_law_670 ml_L_72 mo_X8_at ⟨Nat.le_of_ble_eq_true rfl, Nat.le_of_ble_eq_true rfl⟩ rfl ⟨_, _, rfl⟩ (Nat.le_of_ble_eq_true rfl) rfl rfl (Nat.le_of_ble_eq_true rfl) hc (fun rv M1 z => ?_)
  obtain ⟨z1, z2, z3⟩ := z
  rw [z1]
  show V (m_L_law L xs) 673 (LL j) [.int b.1] M1 QT
  refine V.aload_n dL_law_673 rfl rfl rfl ?_
  refine V.aload_n dL_law_674 rfl rfl rfl ?_
  refine V.iload_n dL_law_675 rfl rfl rfl ?_
  refine V.iconst (v := nI 1) dL_law_676 rfl rfl ?_
  refine V.iadd (v := nI (6 * j + 1)) dL_law_677 (nI_add _ _) rfl ?_
  refine V.sald (X := (L, xs)) (v := xs (6 * j + 1)) rfl dL_law_678 (vp_in_nI (by omega) (by omega)) (by rw [nI_clamp (by omega)]) rfl ?_
  refine V.callv (md' := m_X9_at) (As := [.int (xs (6 * j + 1))]) (rest := [.int b.1]) dL_law_679 ml_L_75 mo_X9_at ⟨Nat.le_of_ble_eq_true rfl, Nat.le_of_ble_eq_true rfl⟩ rfl ⟨_, _, rfl⟩ (Nat.le_of_ble_eq_true rfl) rfl rfl (Nat.le_of_ble_eq_true rfl) (hr M1 z2) (fun rv M2 z => ?_)
  obtain ⟨y1, y2⟩ := z
  rw [y1, y2]
  show V (m_L_law L xs) 682 (LL j) [.int b.1, .int b.1] (ov b.2 M1) QT
  exact V.icmp_eq (tgt := 1530) dL_law_682 rfl rfl (fun _ => K _ (RQ_ov z3)) (fun z => absurd rfl z)
theorem c_law_15 {L : Nat} {xs : Nat → Int32} {j : Nat} (hL : L ≤ 3072) (hj : 6 * j + 6 ≤ L) {M : Mem} (hR : RQ (9 * j) M M) (K : ∀ M', RQ (9 * j + 9) M' M' → V (m_L_law L xs) 1530 (LL j) [] M' QT) : V (m_L_law L xs) 687 (LL j) [] M QT := by
  obtain ⟨b, hc, hr⟩ := o_ahead (B := 9 * j) (by omega) hR (xs (6 * j + 1)) (xs (6 * j + 2))
  refine V.aload_n dL_law_687 rfl rfl rfl ?_
  refine V.aload_n dL_law_688 rfl rfl rfl ?_
  refine V.iload_n dL_law_689 rfl rfl rfl ?_
  refine V.iconst (v := nI 1) dL_law_690 rfl rfl ?_
  refine V.iadd (v := nI (6 * j + 1)) dL_law_691 (nI_add _ _) rfl ?_
  refine V.sald (X := (L, xs)) (v := xs (6 * j + 1)) rfl dL_law_692 (vp_in_nI (by omega) (by omega)) (by rw [nI_clamp (by omega)]) rfl ?_
  refine V.aload_n dL_law_693 rfl rfl rfl ?_
  refine V.iload_n dL_law_694 rfl rfl rfl ?_
  refine V.iconst (v := nI 2) dL_law_695 rfl rfl ?_
  refine V.iadd (v := nI (6 * j + 2)) dL_law_696 (nI_add _ _) rfl ?_
  refine V.sald (X := (L, xs)) (v := xs (6 * j + 2)) rfl dL_law_697 (vp_in_nI (by omega) (by omega)) (by rw [nI_clamp (by omega)]) rfl ?_
  refine V.callv (md' := m_X8_ahead) (As := [.int (xs (6 * j + 1)), .int (xs (6 * j + 2))]) (rest := []) dL_law_698 ml_L_76 mo_X8_ahead ⟨Nat.le_of_ble_eq_true rfl, Nat.le_of_ble_eq_true rfl⟩ rfl ⟨_, _, rfl⟩ (Nat.le_of_ble_eq_true rfl) rfl rfl (Nat.le_of_ble_eq_true rfl) hc (fun rv M1 z => ?_)
  obtain ⟨z1, z2, z3⟩ := z
  rw [z1]
  show V (m_L_law L xs) 701 (LL j) [.int b.1] M1 QT
  refine V.aload_n dL_law_701 rfl rfl rfl ?_
  refine V.aload_n dL_law_702 rfl rfl rfl ?_
  refine V.iload_n dL_law_703 rfl rfl rfl ?_
  refine V.iconst (v := nI 1) dL_law_704 rfl rfl ?_
  refine V.iadd (v := nI (6 * j + 1)) dL_law_705 (nI_add _ _) rfl ?_
  refine V.sald (X := (L, xs)) (v := xs (6 * j + 1)) rfl dL_law_706 (vp_in_nI (by omega) (by omega)) (by rw [nI_clamp (by omega)]) rfl ?_
  refine V.aload_n dL_law_707 rfl rfl rfl ?_
  refine V.iload_n dL_law_708 rfl rfl rfl ?_
  refine V.iconst (v := nI 2) dL_law_709 rfl rfl ?_
  refine V.iadd (v := nI (6 * j + 2)) dL_law_710 (nI_add _ _) rfl ?_
  refine V.sald (X := (L, xs)) (v := xs (6 * j + 2)) rfl dL_law_711 (vp_in_nI (by omega) (by omega)) (by rw [nI_clamp (by omega)]) rfl ?_
  refine V.callv (md' := m_X9_ahead) (As := [.int (xs (6 * j + 1)), .int (xs (6 * j + 2))]) (rest := [.int b.1]) dL_law_712 ml_L_79 mo_X9_ahead ⟨Nat.le_of_ble_eq_true rfl, Nat.le_of_ble_eq_true rfl⟩ rfl ⟨_, _, rfl⟩ (Nat.le_of_ble_eq_true rfl) rfl rfl (Nat.le_of_ble_eq_true rfl) (hr M1 z2) (fun rv M2 z => ?_)
  obtain ⟨y1, y2⟩ := z
  rw [y1, y2]
  show V (m_L_law L xs) 715 (LL j) [.int b.1, .int b.1] (ov b.2 M1) QT
  exact V.icmp_eq (tgt := 1530) dL_law_715 rfl rfl (fun _ => K _ (RQ_ov z3)) (fun z => absurd rfl z)
theorem c_law_16 {L : Nat} {xs : Nat → Int32} {j : Nat} (hL : L ≤ 3072) (hj : 6 * j + 6 ≤ L) {M : Mem} (hR : RQ (9 * j) M M) (K : ∀ M', RQ (9 * j + 9) M' M' → V (m_L_law L xs) 1530 (LL j) [] M' QT) : V (m_L_law L xs) 720 (LL j) [] M QT := by
  obtain ⟨b, hc, hr⟩ := o_ready (B := 9 * j) (by omega) hR (xs (6 * j + 1))
  refine V.aload_n dL_law_720 rfl rfl rfl ?_
  refine V.aload_n dL_law_721 rfl rfl rfl ?_
  refine V.iload_n dL_law_722 rfl rfl rfl ?_
  refine V.iconst (v := nI 1) dL_law_723 rfl rfl ?_
  refine V.iadd (v := nI (6 * j + 1)) dL_law_724 (nI_add _ _) rfl ?_
  refine V.sald (X := (L, xs)) (v := xs (6 * j + 1)) rfl dL_law_725 (vp_in_nI (by omega) (by omega)) (by rw [nI_clamp (by omega)]) rfl ?_
  refine V.callv (md' := m_X8_ready) (As := [.int (xs (6 * j + 1))]) (rest := []) dL_law_726 ml_L_80 mo_X8_ready ⟨Nat.le_of_ble_eq_true rfl, Nat.le_of_ble_eq_true rfl⟩ rfl ⟨_, _, rfl⟩ (Nat.le_of_ble_eq_true rfl) rfl rfl (Nat.le_of_ble_eq_true rfl) hc (fun rv M1 z => ?_)
  obtain ⟨z1, z2, z3⟩ := z
  rw [z1]
  show V (m_L_law L xs) 729 (LL j) [.int b.1] M1 QT
  refine V.aload_n dL_law_729 rfl rfl rfl ?_
  refine V.aload_n dL_law_730 rfl rfl rfl ?_
  refine V.iload_n dL_law_731 rfl rfl rfl ?_
  refine V.iconst (v := nI 1) dL_law_732 rfl rfl ?_
  refine V.iadd (v := nI (6 * j + 1)) dL_law_733 (nI_add _ _) rfl ?_
  refine V.sald (X := (L, xs)) (v := xs (6 * j + 1)) rfl dL_law_734 (vp_in_nI (by omega) (by omega)) (by rw [nI_clamp (by omega)]) rfl ?_
  refine V.callv (md' := m_X9_ready) (As := [.int (xs (6 * j + 1))]) (rest := [.int b.1]) dL_law_735 ml_L_83 mo_X9_ready ⟨Nat.le_of_ble_eq_true rfl, Nat.le_of_ble_eq_true rfl⟩ rfl ⟨_, _, rfl⟩ (Nat.le_of_ble_eq_true rfl) rfl rfl (Nat.le_of_ble_eq_true rfl) (hr M1 z2) (fun rv M2 z => ?_)
  obtain ⟨y1, y2⟩ := z
  rw [y1, y2]
  show V (m_L_law L xs) 738 (LL j) [.int b.1, .int b.1] (ov b.2 M1) QT
  exact V.icmp_eq (tgt := 1530) dL_law_738 rfl rfl (fun _ => K _ (RQ_ov z3)) (fun z => absurd rfl z)
theorem c_law_17 {L : Nat} {xs : Nat → Int32} {j : Nat} (hL : L ≤ 3072) (hj : 6 * j + 6 ≤ L) {M : Mem} (hR : RQ (9 * j) M M) (K : ∀ M', RQ (9 * j + 9) M' M' → V (m_L_law L xs) 1530 (LL j) [] M' QT) : V (m_L_law L xs) 743 (LL j) [] M QT := by
  obtain ⟨b, hc, hr⟩ := o_burnt (B := 9 * j) (by omega) hR (xs (6 * j + 1))
  refine V.aload_n dL_law_743 rfl rfl rfl ?_
  refine V.aload_n dL_law_744 rfl rfl rfl ?_
  refine V.iload_n dL_law_745 rfl rfl rfl ?_
  refine V.iconst (v := nI 1) dL_law_746 rfl rfl ?_
  refine V.iadd (v := nI (6 * j + 1)) dL_law_747 (nI_add _ _) rfl ?_
  refine V.sald (X := (L, xs)) (v := xs (6 * j + 1)) rfl dL_law_748 (vp_in_nI (by omega) (by omega)) (by rw [nI_clamp (by omega)]) rfl ?_
  refine V.callv (md' := m_X8_burnt) (As := [.int (xs (6 * j + 1))]) (rest := []) dL_law_749 ml_L_84 mo_X8_burnt ⟨Nat.le_of_ble_eq_true rfl, Nat.le_of_ble_eq_true rfl⟩ rfl ⟨_, _, rfl⟩ (Nat.le_of_ble_eq_true rfl) rfl rfl (Nat.le_of_ble_eq_true rfl) hc (fun rv M1 z => ?_)
  obtain ⟨z1, z2, z3⟩ := z
  rw [z1]
  show V (m_L_law L xs) 752 (LL j) [.int b.1] M1 QT
  refine V.aload_n dL_law_752 rfl rfl rfl ?_
  refine V.aload_n dL_law_753 rfl rfl rfl ?_
  refine V.iload_n dL_law_754 rfl rfl rfl ?_
  refine V.iconst (v := nI 1) dL_law_755 rfl rfl ?_
  refine V.iadd (v := nI (6 * j + 1)) dL_law_756 (nI_add _ _) rfl ?_
  refine V.sald (X := (L, xs)) (v := xs (6 * j + 1)) rfl dL_law_757 (vp_in_nI (by omega) (by omega)) (by rw [nI_clamp (by omega)]) rfl ?_
  refine V.callv (md' := m_X9_burnt) (As := [.int (xs (6 * j + 1))]) (rest := [.int b.1]) dL_law_758 ml_L_87 mo_X9_burnt ⟨Nat.le_of_ble_eq_true rfl, Nat.le_of_ble_eq_true rfl⟩ rfl ⟨_, _, rfl⟩ (Nat.le_of_ble_eq_true rfl) rfl rfl (Nat.le_of_ble_eq_true rfl) (hr M1 z2) (fun rv M2 z => ?_)
  obtain ⟨y1, y2⟩ := z
  rw [y1, y2]
  show V (m_L_law L xs) 761 (LL j) [.int b.1, .int b.1] (ov b.2 M1) QT
  exact V.icmp_eq (tgt := 1530) dL_law_761 rfl rfl (fun _ => K _ (RQ_ov z3)) (fun z => absurd rfl z)
theorem c_law_18 {L : Nat} {xs : Nat → Int32} {j : Nat} (hL : L ≤ 3072) (hj : 6 * j + 6 ≤ L) {M : Mem} (hR : RQ (9 * j) M M) (K : ∀ M', RQ (9 * j + 9) M' M' → V (m_L_law L xs) 1530 (LL j) [] M' QT) : V (m_L_law L xs) 766 (LL j) [] M QT := by
  obtain ⟨b, hc, hr⟩ := o_putOn (B := 9 * j) (by omega) hR (xs (6 * j + 1)) (xs (6 * j + 2))
  refine V.aload_n dL_law_766 rfl rfl rfl ?_
  refine V.aload_n dL_law_767 rfl rfl rfl ?_
  refine V.iload_n dL_law_768 rfl rfl rfl ?_
  refine V.iconst (v := nI 1) dL_law_769 rfl rfl ?_
  refine V.iadd (v := nI (6 * j + 1)) dL_law_770 (nI_add _ _) rfl ?_
  refine V.sald (X := (L, xs)) (v := xs (6 * j + 1)) rfl dL_law_771 (vp_in_nI (by omega) (by omega)) (by rw [nI_clamp (by omega)]) rfl ?_
  refine V.aload_n dL_law_772 rfl rfl rfl ?_
  refine V.iload_n dL_law_773 rfl rfl rfl ?_
  refine V.iconst (v := nI 2) dL_law_774 rfl rfl ?_
  refine V.iadd (v := nI (6 * j + 2)) dL_law_775 (nI_add _ _) rfl ?_
  refine V.sald (X := (L, xs)) (v := xs (6 * j + 2)) rfl dL_law_776 (vp_in_nI (by omega) (by omega)) (by rw [nI_clamp (by omega)]) rfl ?_
  refine V.callv (md' := m_X8_putOn) (As := [.int (xs (6 * j + 1)), .int (xs (6 * j + 2))]) (rest := []) dL_law_777 ml_L_88 mo_X8_putOn ⟨Nat.le_of_ble_eq_true rfl, Nat.le_of_ble_eq_true rfl⟩ rfl ⟨_, _, rfl⟩ (Nat.le_of_ble_eq_true rfl) rfl rfl (Nat.le_of_ble_eq_true rfl) hc (fun rv M1 z => ?_)
  obtain ⟨z1, z2, z3⟩ := z
  rw [z1]
  show V (m_L_law L xs) 780 (LL j) [.int b.1] M1 QT
  refine V.aload_n dL_law_780 rfl rfl rfl ?_
  refine V.aload_n dL_law_781 rfl rfl rfl ?_
  refine V.iload_n dL_law_782 rfl rfl rfl ?_
  refine V.iconst (v := nI 1) dL_law_783 rfl rfl ?_
  refine V.iadd (v := nI (6 * j + 1)) dL_law_784 (nI_add _ _) rfl ?_
  refine V.sald (X := (L, xs)) (v := xs (6 * j + 1)) rfl dL_law_785 (vp_in_nI (by omega) (by omega)) (by rw [nI_clamp (by omega)]) rfl ?_
  refine V.aload_n dL_law_786 rfl rfl rfl ?_
  refine V.iload_n dL_law_787 rfl rfl rfl ?_
  refine V.iconst (v := nI 2) dL_law_788 rfl rfl ?_
  refine V.iadd (v := nI (6 * j + 2)) dL_law_789 (nI_add _ _) rfl ?_
  refine V.sald (X := (L, xs)) (v := xs (6 * j + 2)) rfl dL_law_790 (vp_in_nI (by omega) (by omega)) (by rw [nI_clamp (by omega)]) rfl ?_
  refine V.callv (md' := m_X9_putOn) (As := [.int (xs (6 * j + 1)), .int (xs (6 * j + 2))]) (rest := [.int b.1]) dL_law_791 ml_L_91 mo_X9_putOn ⟨Nat.le_of_ble_eq_true rfl, Nat.le_of_ble_eq_true rfl⟩ rfl ⟨_, _, rfl⟩ (Nat.le_of_ble_eq_true rfl) rfl rfl (Nat.le_of_ble_eq_true rfl) (hr M1 z2) (fun rv M2 z => ?_)
  obtain ⟨y1, y2⟩ := z
  rw [y1, y2]
  show V (m_L_law L xs) 794 (LL j) [.int b.1, .int b.1] (ov b.2 M1) QT
  exact V.icmp_eq (tgt := 1530) dL_law_794 rfl rfl (fun _ => K _ (RQ_ov z3)) (fun z => absurd rfl z)
theorem c_law_19 {L : Nat} {xs : Nat → Int32} {j : Nat} (hL : L ≤ 3072) (hj : 6 * j + 6 ≤ L) {M : Mem} (hR : RQ (9 * j) M M) (K : ∀ M', RQ (9 * j + 9) M' M' → V (m_L_law L xs) 1530 (LL j) [] M' QT) : V (m_L_law L xs) 799 (LL j) [] M QT := by
  obtain ⟨b, hc, hr⟩ := o_takeOff (B := 9 * j) (by omega) hR (xs (6 * j + 1)) (xs (6 * j + 2))
  refine V.aload_n dL_law_799 rfl rfl rfl ?_
  refine V.aload_n dL_law_800 rfl rfl rfl ?_
  refine V.iload_n dL_law_801 rfl rfl rfl ?_
  refine V.iconst (v := nI 1) dL_law_802 rfl rfl ?_
  refine V.iadd (v := nI (6 * j + 1)) dL_law_803 (nI_add _ _) rfl ?_
  refine V.sald (X := (L, xs)) (v := xs (6 * j + 1)) rfl dL_law_804 (vp_in_nI (by omega) (by omega)) (by rw [nI_clamp (by omega)]) rfl ?_
  refine V.aload_n dL_law_805 rfl rfl rfl ?_
  refine V.iload_n dL_law_806 rfl rfl rfl ?_
  refine V.iconst (v := nI 2) dL_law_807 rfl rfl ?_
  refine V.iadd (v := nI (6 * j + 2)) dL_law_808 (nI_add _ _) rfl ?_
  refine V.sald (X := (L, xs)) (v := xs (6 * j + 2)) rfl dL_law_809 (vp_in_nI (by omega) (by omega)) (by rw [nI_clamp (by omega)]) rfl ?_
  refine V.callv (md' := m_X8_takeOff) (As := [.int (xs (6 * j + 1)), .int (xs (6 * j + 2))]) (rest := []) dL_law_810 ml_L_92 mo_X8_takeOff ⟨Nat.le_of_ble_eq_true rfl, Nat.le_of_ble_eq_true rfl⟩ rfl ⟨_, _, rfl⟩ (Nat.le_of_ble_eq_true rfl) rfl rfl (Nat.le_of_ble_eq_true rfl) hc (fun rv M1 z => ?_)
  obtain ⟨z1, z2, z3⟩ := z
  rw [z1]
  show V (m_L_law L xs) 813 (LL j) [.int b.1] M1 QT
  refine V.aload_n dL_law_813 rfl rfl rfl ?_
  refine V.aload_n dL_law_814 rfl rfl rfl ?_
  refine V.iload_n dL_law_815 rfl rfl rfl ?_
  refine V.iconst (v := nI 1) dL_law_816 rfl rfl ?_
  refine V.iadd (v := nI (6 * j + 1)) dL_law_817 (nI_add _ _) rfl ?_
  refine V.sald (X := (L, xs)) (v := xs (6 * j + 1)) rfl dL_law_818 (vp_in_nI (by omega) (by omega)) (by rw [nI_clamp (by omega)]) rfl ?_
  refine V.aload_n dL_law_819 rfl rfl rfl ?_
  refine V.iload_n dL_law_820 rfl rfl rfl ?_
  refine V.iconst (v := nI 2) dL_law_821 rfl rfl ?_
  refine V.iadd (v := nI (6 * j + 2)) dL_law_822 (nI_add _ _) rfl ?_
  refine V.sald (X := (L, xs)) (v := xs (6 * j + 2)) rfl dL_law_823 (vp_in_nI (by omega) (by omega)) (by rw [nI_clamp (by omega)]) rfl ?_
  refine V.callv (md' := m_X9_takeOff) (As := [.int (xs (6 * j + 1)), .int (xs (6 * j + 2))]) (rest := [.int b.1]) dL_law_824 ml_L_95 mo_X9_takeOff ⟨Nat.le_of_ble_eq_true rfl, Nat.le_of_ble_eq_true rfl⟩ rfl ⟨_, _, rfl⟩ (Nat.le_of_ble_eq_true rfl) rfl rfl (Nat.le_of_ble_eq_true rfl) (hr M1 z2) (fun rv M2 z => ?_)
  obtain ⟨y1, y2⟩ := z
  rw [y1, y2]
  show V (m_L_law L xs) 827 (LL j) [.int b.1, .int b.1] (ov b.2 M1) QT
  exact V.icmp_eq (tgt := 1530) dL_law_827 rfl rfl (fun _ => K _ (RQ_ov z3)) (fun z => absurd rfl z)
theorem c_law_20 {L : Nat} {xs : Nat → Int32} {j : Nat} (hL : L ≤ 3072) (hj : 6 * j + 6 ≤ L) {M : Mem} (hR : RQ (9 * j) M M) (K : ∀ M', RQ (9 * j + 9) M' M' → V (m_L_law L xs) 1530 (LL j) [] M' QT) : V (m_L_law L xs) 832 (LL j) [] M QT := by
  obtain ⟨b, hc, hr⟩ := o_shovels (B := 9 * j) (by omega) hR (xs (6 * j + 1))
  refine V.aload_n dL_law_832 rfl rfl rfl ?_
  refine V.aload_n dL_law_833 rfl rfl rfl ?_
  refine V.iload_n dL_law_834 rfl rfl rfl ?_
  refine V.iconst (v := nI 1) dL_law_835 rfl rfl ?_
  refine V.iadd (v := nI (6 * j + 1)) dL_law_836 (nI_add _ _) rfl ?_
  refine V.sald (X := (L, xs)) (v := xs (6 * j + 1)) rfl dL_law_837 (vp_in_nI (by omega) (by omega)) (by rw [nI_clamp (by omega)]) rfl ?_
  refine V.callv (md' := m_X8_shovels) (As := [.int (xs (6 * j + 1))]) (rest := []) dL_law_838 ml_L_96 mo_X8_shovels ⟨Nat.le_of_ble_eq_true rfl, Nat.le_of_ble_eq_true rfl⟩ rfl ⟨_, _, rfl⟩ (Nat.le_of_ble_eq_true rfl) rfl rfl (Nat.le_of_ble_eq_true rfl) hc (fun rv M1 z => ?_)
  obtain ⟨z1, z2, z3⟩ := z
  rw [z1]
  show V (m_L_law L xs) 841 (LL j) [.int b.1] M1 QT
  refine V.aload_n dL_law_841 rfl rfl rfl ?_
  refine V.aload_n dL_law_842 rfl rfl rfl ?_
  refine V.iload_n dL_law_843 rfl rfl rfl ?_
  refine V.iconst (v := nI 1) dL_law_844 rfl rfl ?_
  refine V.iadd (v := nI (6 * j + 1)) dL_law_845 (nI_add _ _) rfl ?_
  refine V.sald (X := (L, xs)) (v := xs (6 * j + 1)) rfl dL_law_846 (vp_in_nI (by omega) (by omega)) (by rw [nI_clamp (by omega)]) rfl ?_
  refine V.callv (md' := m_X9_shovels) (As := [.int (xs (6 * j + 1))]) (rest := [.int b.1]) dL_law_847 ml_L_99 mo_X9_shovels ⟨Nat.le_of_ble_eq_true rfl, Nat.le_of_ble_eq_true rfl⟩ rfl ⟨_, _, rfl⟩ (Nat.le_of_ble_eq_true rfl) rfl rfl (Nat.le_of_ble_eq_true rfl) (hr M1 z2) (fun rv M2 z => ?_)
  obtain ⟨y1, y2⟩ := z
  rw [y1, y2]
  show V (m_L_law L xs) 850 (LL j) [.int b.1, .int b.1] (ov b.2 M1) QT
  exact V.icmp_eq (tgt := 1530) dL_law_850 rfl rfl (fun _ => K _ (RQ_ov z3)) (fun z => absurd rfl z)
theorem c_law_21 {L : Nat} {xs : Nat → Int32} {j : Nat} (hL : L ≤ 3072) (hj : 6 * j + 6 ≤ L) {M : Mem} (hR : RQ (9 * j) M M) (K : ∀ M', RQ (9 * j + 9) M' M' → V (m_L_law L xs) 1530 (LL j) [] M' QT) : V (m_L_law L xs) 855 (LL j) [] M QT := by
  obtain ⟨b, hc, hr⟩ := o_corner (B := 9 * j) (by omega) hR (xs (6 * j + 1))
  refine V.aload_n dL_law_855 rfl rfl rfl ?_
  refine V.aload_n dL_law_856 rfl rfl rfl ?_
  refine V.iload_n dL_law_857 rfl rfl rfl ?_
  refine V.iconst (v := nI 1) dL_law_858 rfl rfl ?_
  refine V.iadd (v := nI (6 * j + 1)) dL_law_859 (nI_add _ _) rfl ?_
  refine V.sald (X := (L, xs)) (v := xs (6 * j + 1)) rfl dL_law_860 (vp_in_nI (by omega) (by omega)) (by rw [nI_clamp (by omega)]) rfl ?_
  refine V.callv (md' := m_X8_corner) (As := [.int (xs (6 * j + 1))]) (rest := []) dL_law_861 ml_L_100 mo_X8_corner ⟨Nat.le_of_ble_eq_true rfl, Nat.le_of_ble_eq_true rfl⟩ rfl ⟨_, _, rfl⟩ (Nat.le_of_ble_eq_true rfl) rfl rfl (Nat.le_of_ble_eq_true rfl) hc (fun rv M1 z => ?_)
  obtain ⟨z1, z2, z3⟩ := z
  rw [z1]
  show V (m_L_law L xs) 864 (LL j) [.int b.1] M1 QT
  refine V.aload_n dL_law_864 rfl rfl rfl ?_
  refine V.aload_n dL_law_865 rfl rfl rfl ?_
  refine V.iload_n dL_law_866 rfl rfl rfl ?_
  refine V.iconst (v := nI 1) dL_law_867 rfl rfl ?_
  refine V.iadd (v := nI (6 * j + 1)) dL_law_868 (nI_add _ _) rfl ?_
  refine V.sald (X := (L, xs)) (v := xs (6 * j + 1)) rfl dL_law_869 (vp_in_nI (by omega) (by omega)) (by rw [nI_clamp (by omega)]) rfl ?_
  refine V.callv (md' := m_X9_corner) (As := [.int (xs (6 * j + 1))]) (rest := [.int b.1]) dL_law_870 ml_L_103 mo_X9_corner ⟨Nat.le_of_ble_eq_true rfl, Nat.le_of_ble_eq_true rfl⟩ rfl ⟨_, _, rfl⟩ (Nat.le_of_ble_eq_true rfl) rfl rfl (Nat.le_of_ble_eq_true rfl) (hr M1 z2) (fun rv M2 z => ?_)
  obtain ⟨y1, y2⟩ := z
  rw [y1, y2]
  show V (m_L_law L xs) 873 (LL j) [.int b.1, .int b.1] (ov b.2 M1) QT
  exact V.icmp_eq (tgt := 1530) dL_law_873 rfl rfl (fun _ => K _ (RQ_ov z3)) (fun z => absurd rfl z)
theorem c_law_22 {L : Nat} {xs : Nat → Int32} {j : Nat} (hL : L ≤ 3072) (hj : 6 * j + 6 ≤ L) {M : Mem} (hR : RQ (9 * j) M M) (K : ∀ M', RQ (9 * j + 9) M' M' → V (m_L_law L xs) 1530 (LL j) [] M' QT) : V (m_L_law L xs) 878 (LL j) [] M QT := by
  obtain ⟨b, hc, hr⟩ := o_two (B := 9 * j) (by omega) hR (xs (6 * j + 1)) (xs (6 * j + 2))
  refine V.aload_n dL_law_878 rfl rfl rfl ?_
  refine V.aload_n dL_law_879 rfl rfl rfl ?_
  refine V.iload_n dL_law_880 rfl rfl rfl ?_
  refine V.iconst (v := nI 1) dL_law_881 rfl rfl ?_
  refine V.iadd (v := nI (6 * j + 1)) dL_law_882 (nI_add _ _) rfl ?_
  refine V.sald (X := (L, xs)) (v := xs (6 * j + 1)) rfl dL_law_883 (vp_in_nI (by omega) (by omega)) (by rw [nI_clamp (by omega)]) rfl ?_
  refine V.aload_n dL_law_884 rfl rfl rfl ?_
  refine V.iload_n dL_law_885 rfl rfl rfl ?_
  refine V.iconst (v := nI 2) dL_law_886 rfl rfl ?_
  refine V.iadd (v := nI (6 * j + 2)) dL_law_887 (nI_add _ _) rfl ?_
  refine V.sald (X := (L, xs)) (v := xs (6 * j + 2)) rfl dL_law_888 (vp_in_nI (by omega) (by omega)) (by rw [nI_clamp (by omega)]) rfl ?_
  refine V.callv (md' := m_X8_two) (As := [.int (xs (6 * j + 1)), .int (xs (6 * j + 2))]) (rest := []) dL_law_889 ml_L_104 mo_X8_two ⟨Nat.le_of_ble_eq_true rfl, Nat.le_of_ble_eq_true rfl⟩ rfl ⟨_, _, rfl⟩ (Nat.le_of_ble_eq_true rfl) rfl rfl (Nat.le_of_ble_eq_true rfl) hc (fun rv M1 z => ?_)
  obtain ⟨z1, z2, z3⟩ := z
  rw [z1]
  show V (m_L_law L xs) 892 (LL j) [.int b.1] M1 QT
  refine V.aload_n dL_law_892 rfl rfl rfl ?_
  refine V.aload_n dL_law_893 rfl rfl rfl ?_
  refine V.iload_n dL_law_894 rfl rfl rfl ?_
  refine V.iconst (v := nI 1) dL_law_895 rfl rfl ?_
  refine V.iadd (v := nI (6 * j + 1)) dL_law_896 (nI_add _ _) rfl ?_
  refine V.sald (X := (L, xs)) (v := xs (6 * j + 1)) rfl dL_law_897 (vp_in_nI (by omega) (by omega)) (by rw [nI_clamp (by omega)]) rfl ?_
  refine V.aload_n dL_law_898 rfl rfl rfl ?_
  refine V.iload_n dL_law_899 rfl rfl rfl ?_
  refine V.iconst (v := nI 2) dL_law_900 rfl rfl ?_
  refine V.iadd (v := nI (6 * j + 2)) dL_law_901 (nI_add _ _) rfl ?_
  refine V.sald (X := (L, xs)) (v := xs (6 * j + 2)) rfl dL_law_902 (vp_in_nI (by omega) (by omega)) (by rw [nI_clamp (by omega)]) rfl ?_
  refine V.callv (md' := m_X9_two) (As := [.int (xs (6 * j + 1)), .int (xs (6 * j + 2))]) (rest := [.int b.1]) dL_law_903 ml_L_107 mo_X9_two ⟨Nat.le_of_ble_eq_true rfl, Nat.le_of_ble_eq_true rfl⟩ rfl ⟨_, _, rfl⟩ (Nat.le_of_ble_eq_true rfl) rfl rfl (Nat.le_of_ble_eq_true rfl) (hr M1 z2) (fun rv M2 z => ?_)
  obtain ⟨y1, y2⟩ := z
  rw [y1, y2]
  show V (m_L_law L xs) 906 (LL j) [.int b.1, .int b.1] (ov b.2 M1) QT
  exact V.icmp_eq (tgt := 1530) dL_law_906 rfl rfl (fun _ => K _ (RQ_ov z3)) (fun z => absurd rfl z)
theorem c_law_23 {L : Nat} {xs : Nat → Int32} {j : Nat} (hL : L ≤ 3072) (hj : 6 * j + 6 ≤ L) {M : Mem} (hR : RQ (9 * j) M M) (K : ∀ M', RQ (9 * j + 9) M' M' → V (m_L_law L xs) 1530 (LL j) [] M' QT) : V (m_L_law L xs) 911 (LL j) [] M QT := by
  obtain ⟨b, hc, hr⟩ := o_price (B := 9 * j) (by omega) hR (xs (6 * j + 1))
  refine V.aload_n dL_law_911 rfl rfl rfl ?_
  refine V.aload_n dL_law_912 rfl rfl rfl ?_
  refine V.iload_n dL_law_913 rfl rfl rfl ?_
  refine V.iconst (v := nI 1) dL_law_914 rfl rfl ?_
  refine V.iadd (v := nI (6 * j + 1)) dL_law_915 (nI_add _ _) rfl ?_
  refine V.sald (X := (L, xs)) (v := xs (6 * j + 1)) rfl dL_law_916 (vp_in_nI (by omega) (by omega)) (by rw [nI_clamp (by omega)]) rfl ?_
  refine V.callv (md' := m_X8_price) (As := [.int (xs (6 * j + 1))]) (rest := []) dL_law_917 ml_L_108 mo_X8_price ⟨Nat.le_of_ble_eq_true rfl, Nat.le_of_ble_eq_true rfl⟩ rfl ⟨_, _, rfl⟩ (Nat.le_of_ble_eq_true rfl) rfl rfl (Nat.le_of_ble_eq_true rfl) hc (fun rv M1 z => ?_)
  obtain ⟨z1, z2, z3⟩ := z
  rw [z1]
  show V (m_L_law L xs) 920 (LL j) [.int b.1] M1 QT
  refine V.aload_n dL_law_920 rfl rfl rfl ?_
  refine V.aload_n dL_law_921 rfl rfl rfl ?_
  refine V.iload_n dL_law_922 rfl rfl rfl ?_
  refine V.iconst (v := nI 1) dL_law_923 rfl rfl ?_
  refine V.iadd (v := nI (6 * j + 1)) dL_law_924 (nI_add _ _) rfl ?_
  refine V.sald (X := (L, xs)) (v := xs (6 * j + 1)) rfl dL_law_925 (vp_in_nI (by omega) (by omega)) (by rw [nI_clamp (by omega)]) rfl ?_
  refine V.callv (md' := m_X9_price) (As := [.int (xs (6 * j + 1))]) (rest := [.int b.1]) dL_law_926 ml_L_111 mo_X9_price ⟨Nat.le_of_ble_eq_true rfl, Nat.le_of_ble_eq_true rfl⟩ rfl ⟨_, _, rfl⟩ (Nat.le_of_ble_eq_true rfl) rfl rfl (Nat.le_of_ble_eq_true rfl) (hr M1 z2) (fun rv M2 z => ?_)
  obtain ⟨y1, y2⟩ := z
  rw [y1, y2]
  show V (m_L_law L xs) 929 (LL j) [.int b.1, .int b.1] (ov b.2 M1) QT
  exact V.icmp_eq (tgt := 1530) dL_law_929 rfl rfl (fun _ => K _ (RQ_ov z3)) (fun z => absurd rfl z)
theorem c_law_24 {L : Nat} {xs : Nat → Int32} {j : Nat} (hL : L ≤ 3072) (hj : 6 * j + 6 ≤ L) {M : Mem} (hR : RQ (9 * j) M M) (K : ∀ M', RQ (9 * j + 9) M' M' → V (m_L_law L xs) 1530 (LL j) [] M' QT) : V (m_L_law L xs) 934 (LL j) [] M QT := by
  obtain ⟨b, hc, hr⟩ := o_kindFor (B := 9 * j) (by omega) hR (xs (6 * j + 1)) (xs (6 * j + 2))
  refine V.aload_n dL_law_934 rfl rfl rfl ?_
  refine V.aload_n dL_law_935 rfl rfl rfl ?_
  refine V.iload_n dL_law_936 rfl rfl rfl ?_
  refine V.iconst (v := nI 1) dL_law_937 rfl rfl ?_
  refine V.iadd (v := nI (6 * j + 1)) dL_law_938 (nI_add _ _) rfl ?_
  refine V.sald (X := (L, xs)) (v := xs (6 * j + 1)) rfl dL_law_939 (vp_in_nI (by omega) (by omega)) (by rw [nI_clamp (by omega)]) rfl ?_
  refine V.aload_n dL_law_940 rfl rfl rfl ?_
  refine V.iload_n dL_law_941 rfl rfl rfl ?_
  refine V.iconst (v := nI 2) dL_law_942 rfl rfl ?_
  refine V.iadd (v := nI (6 * j + 2)) dL_law_943 (nI_add _ _) rfl ?_
  refine V.sald (X := (L, xs)) (v := xs (6 * j + 2)) rfl dL_law_944 (vp_in_nI (by omega) (by omega)) (by rw [nI_clamp (by omega)]) rfl ?_
  refine V.callv (md' := m_X8_kindFor) (As := [.int (xs (6 * j + 1)), .int (xs (6 * j + 2))]) (rest := []) dL_law_945 ml_L_112 mo_X8_kindFor ⟨Nat.le_of_ble_eq_true rfl, Nat.le_of_ble_eq_true rfl⟩ rfl ⟨_, _, rfl⟩ (Nat.le_of_ble_eq_true rfl) rfl rfl (Nat.le_of_ble_eq_true rfl) hc (fun rv M1 z => ?_)
  obtain ⟨z1, z2, z3⟩ := z
  rw [z1]
  show V (m_L_law L xs) 948 (LL j) [.int b.1] M1 QT
  refine V.aload_n dL_law_948 rfl rfl rfl ?_
  refine V.aload_n dL_law_949 rfl rfl rfl ?_
  refine V.iload_n dL_law_950 rfl rfl rfl ?_
  refine V.iconst (v := nI 1) dL_law_951 rfl rfl ?_
  refine V.iadd (v := nI (6 * j + 1)) dL_law_952 (nI_add _ _) rfl ?_
  refine V.sald (X := (L, xs)) (v := xs (6 * j + 1)) rfl dL_law_953 (vp_in_nI (by omega) (by omega)) (by rw [nI_clamp (by omega)]) rfl ?_
  refine V.aload_n dL_law_954 rfl rfl rfl ?_
  refine V.iload_n dL_law_955 rfl rfl rfl ?_
  refine V.iconst (v := nI 2) dL_law_956 rfl rfl ?_
  refine V.iadd (v := nI (6 * j + 2)) dL_law_957 (nI_add _ _) rfl ?_
  refine V.sald (X := (L, xs)) (v := xs (6 * j + 2)) rfl dL_law_958 (vp_in_nI (by omega) (by omega)) (by rw [nI_clamp (by omega)]) rfl ?_
  refine V.callv (md' := m_X9_kindFor) (As := [.int (xs (6 * j + 1)), .int (xs (6 * j + 2))]) (rest := [.int b.1]) dL_law_959 ml_L_115 mo_X9_kindFor ⟨Nat.le_of_ble_eq_true rfl, Nat.le_of_ble_eq_true rfl⟩ rfl ⟨_, _, rfl⟩ (Nat.le_of_ble_eq_true rfl) rfl rfl (Nat.le_of_ble_eq_true rfl) (hr M1 z2) (fun rv M2 z => ?_)
  obtain ⟨y1, y2⟩ := z
  rw [y1, y2]
  show V (m_L_law L xs) 962 (LL j) [.int b.1, .int b.1] (ov b.2 M1) QT
  exact V.icmp_eq (tgt := 1530) dL_law_962 rfl rfl (fun _ => K _ (RQ_ov z3)) (fun z => absurd rfl z)
theorem c_law_25 {L : Nat} {xs : Nat → Int32} {j : Nat} (hL : L ≤ 3072) (hj : 6 * j + 6 ≤ L) {M : Mem} (hR : RQ (9 * j) M M) (K : ∀ M', RQ (9 * j + 9) M' M' → V (m_L_law L xs) 1530 (LL j) [] M' QT) : V (m_L_law L xs) 967 (LL j) [] M QT := by
  obtain ⟨b, hc, hr⟩ := o_heatFor (B := 9 * j) (by omega) hR (xs (6 * j + 1)) (xs (6 * j + 2))
  refine V.aload_n dL_law_967 rfl rfl rfl ?_
  refine V.aload_n dL_law_968 rfl rfl rfl ?_
  refine V.iload_n dL_law_969 rfl rfl rfl ?_
  refine V.iconst (v := nI 1) dL_law_970 rfl rfl ?_
  refine V.iadd (v := nI (6 * j + 1)) dL_law_971 (nI_add _ _) rfl ?_
  refine V.sald (X := (L, xs)) (v := xs (6 * j + 1)) rfl dL_law_972 (vp_in_nI (by omega) (by omega)) (by rw [nI_clamp (by omega)]) rfl ?_
  refine V.aload_n dL_law_973 rfl rfl rfl ?_
  refine V.iload_n dL_law_974 rfl rfl rfl ?_
  refine V.iconst (v := nI 2) dL_law_975 rfl rfl ?_
  refine V.iadd (v := nI (6 * j + 2)) dL_law_976 (nI_add _ _) rfl ?_
  refine V.sald (X := (L, xs)) (v := xs (6 * j + 2)) rfl dL_law_977 (vp_in_nI (by omega) (by omega)) (by rw [nI_clamp (by omega)]) rfl ?_
  refine V.callv (md' := m_X8_heatFor) (As := [.int (xs (6 * j + 1)), .int (xs (6 * j + 2))]) (rest := []) dL_law_978 ml_L_116 mo_X8_heatFor ⟨Nat.le_of_ble_eq_true rfl, Nat.le_of_ble_eq_true rfl⟩ rfl ⟨_, _, rfl⟩ (Nat.le_of_ble_eq_true rfl) rfl rfl (Nat.le_of_ble_eq_true rfl) hc (fun rv M1 z => ?_)
  obtain ⟨z1, z2, z3⟩ := z
  rw [z1]
  show V (m_L_law L xs) 981 (LL j) [.int b.1] M1 QT
  refine V.aload_n dL_law_981 rfl rfl rfl ?_
  refine V.aload_n dL_law_982 rfl rfl rfl ?_
  refine V.iload_n dL_law_983 rfl rfl rfl ?_
  refine V.iconst (v := nI 1) dL_law_984 rfl rfl ?_
  refine V.iadd (v := nI (6 * j + 1)) dL_law_985 (nI_add _ _) rfl ?_
  refine V.sald (X := (L, xs)) (v := xs (6 * j + 1)) rfl dL_law_986 (vp_in_nI (by omega) (by omega)) (by rw [nI_clamp (by omega)]) rfl ?_
  refine V.aload_n dL_law_987 rfl rfl rfl ?_
  refine V.iload_n dL_law_988 rfl rfl rfl ?_
  refine V.iconst (v := nI 2) dL_law_989 rfl rfl ?_
  refine V.iadd (v := nI (6 * j + 2)) dL_law_990 (nI_add _ _) rfl ?_
  refine V.sald (X := (L, xs)) (v := xs (6 * j + 2)) rfl dL_law_991 (vp_in_nI (by omega) (by omega)) (by rw [nI_clamp (by omega)]) rfl ?_
  refine V.callv (md' := m_X9_heatFor) (As := [.int (xs (6 * j + 1)), .int (xs (6 * j + 2))]) (rest := [.int b.1]) dL_law_992 ml_L_119 mo_X9_heatFor ⟨Nat.le_of_ble_eq_true rfl, Nat.le_of_ble_eq_true rfl⟩ rfl ⟨_, _, rfl⟩ (Nat.le_of_ble_eq_true rfl) rfl rfl (Nat.le_of_ble_eq_true rfl) (hr M1 z2) (fun rv M2 z => ?_)
  obtain ⟨y1, y2⟩ := z
  rw [y1, y2]
  show V (m_L_law L xs) 995 (LL j) [.int b.1, .int b.1] (ov b.2 M1) QT
  exact V.icmp_eq (tgt := 1530) dL_law_995 rfl rfl (fun _ => K _ (RQ_ov z3)) (fun z => absurd rfl z)
theorem c_law_26 {L : Nat} {xs : Nat → Int32} {j : Nat} (hL : L ≤ 3072) (hj : 6 * j + 6 ≤ L) {M : Mem} (hR : RQ (9 * j) M M) (K : ∀ M', RQ (9 * j + 9) M' M' → V (m_L_law L xs) 1530 (LL j) [] M' QT) : V (m_L_law L xs) 1000 (LL j) [] M QT := by
  obtain ⟨b, hc, hr⟩ := o_brings (B := 9 * j) (by omega) hR (xs (6 * j + 1)) (xs (6 * j + 2))
  refine V.aload_n dL_law_1000 rfl rfl rfl ?_
  refine V.aload_n dL_law_1001 rfl rfl rfl ?_
  refine V.iload_n dL_law_1002 rfl rfl rfl ?_
  refine V.iconst (v := nI 1) dL_law_1003 rfl rfl ?_
  refine V.iadd (v := nI (6 * j + 1)) dL_law_1004 (nI_add _ _) rfl ?_
  refine V.sald (X := (L, xs)) (v := xs (6 * j + 1)) rfl dL_law_1005 (vp_in_nI (by omega) (by omega)) (by rw [nI_clamp (by omega)]) rfl ?_
  refine V.aload_n dL_law_1006 rfl rfl rfl ?_
  refine V.iload_n dL_law_1007 rfl rfl rfl ?_
  refine V.iconst (v := nI 2) dL_law_1008 rfl rfl ?_
  refine V.iadd (v := nI (6 * j + 2)) dL_law_1009 (nI_add _ _) rfl ?_
  refine V.sald (X := (L, xs)) (v := xs (6 * j + 2)) rfl dL_law_1010 (vp_in_nI (by omega) (by omega)) (by rw [nI_clamp (by omega)]) rfl ?_
  refine V.callv (md' := m_X8_brings) (As := [.int (xs (6 * j + 1)), .int (xs (6 * j + 2))]) (rest := []) dL_law_1011 ml_L_120 mo_X8_brings ⟨Nat.le_of_ble_eq_true rfl, Nat.le_of_ble_eq_true rfl⟩ rfl ⟨_, _, rfl⟩ (Nat.le_of_ble_eq_true rfl) rfl rfl (Nat.le_of_ble_eq_true rfl) hc (fun rv M1 z => ?_)
  obtain ⟨z1, z2, z3⟩ := z
  rw [z1]
  show V (m_L_law L xs) 1014 (LL j) [.int b.1] M1 QT
  refine V.aload_n dL_law_1014 rfl rfl rfl ?_
  refine V.aload_n dL_law_1015 rfl rfl rfl ?_
  refine V.iload_n dL_law_1016 rfl rfl rfl ?_
  refine V.iconst (v := nI 1) dL_law_1017 rfl rfl ?_
  refine V.iadd (v := nI (6 * j + 1)) dL_law_1018 (nI_add _ _) rfl ?_
  refine V.sald (X := (L, xs)) (v := xs (6 * j + 1)) rfl dL_law_1019 (vp_in_nI (by omega) (by omega)) (by rw [nI_clamp (by omega)]) rfl ?_
  refine V.aload_n dL_law_1020 rfl rfl rfl ?_
  refine V.iload_n dL_law_1021 rfl rfl rfl ?_
  refine V.iconst (v := nI 2) dL_law_1022 rfl rfl ?_
  refine V.iadd (v := nI (6 * j + 2)) dL_law_1023 (nI_add _ _) rfl ?_
  refine V.sald (X := (L, xs)) (v := xs (6 * j + 2)) rfl dL_law_1024 (vp_in_nI (by omega) (by omega)) (by rw [nI_clamp (by omega)]) rfl ?_
  refine V.callv (md' := m_X9_brings) (As := [.int (xs (6 * j + 1)), .int (xs (6 * j + 2))]) (rest := [.int b.1]) dL_law_1025 ml_L_123 mo_X9_brings ⟨Nat.le_of_ble_eq_true rfl, Nat.le_of_ble_eq_true rfl⟩ rfl ⟨_, _, rfl⟩ (Nat.le_of_ble_eq_true rfl) rfl rfl (Nat.le_of_ble_eq_true rfl) (hr M1 z2) (fun rv M2 z => ?_)
  obtain ⟨y1, y2⟩ := z
  rw [y1, y2]
  show V (m_L_law L xs) 1028 (LL j) [.int b.1, .int b.1] (ov b.2 M1) QT
  exact V.icmp_eq (tgt := 1530) dL_law_1028 rfl rfl (fun _ => K _ (RQ_ov z3)) (fun z => absurd rfl z)
theorem c_law_27 {L : Nat} {xs : Nat → Int32} {j : Nat} (hL : L ≤ 3072) (hj : 6 * j + 6 ≤ L) {M : Mem} (hR : RQ (9 * j) M M) (K : ∀ M', RQ (9 * j + 9) M' M' → V (m_L_law L xs) 1530 (LL j) [] M' QT) : V (m_L_law L xs) 1033 (LL j) [] M QT := by
  obtain ⟨b, hc, hr⟩ := o_best (B := 9 * j) (by omega) hR (xs (6 * j + 1))
  refine V.aload_n dL_law_1033 rfl rfl rfl ?_
  refine V.aload_n dL_law_1034 rfl rfl rfl ?_
  refine V.iload_n dL_law_1035 rfl rfl rfl ?_
  refine V.iconst (v := nI 1) dL_law_1036 rfl rfl ?_
  refine V.iadd (v := nI (6 * j + 1)) dL_law_1037 (nI_add _ _) rfl ?_
  refine V.sald (X := (L, xs)) (v := xs (6 * j + 1)) rfl dL_law_1038 (vp_in_nI (by omega) (by omega)) (by rw [nI_clamp (by omega)]) rfl ?_
  refine V.callv (md' := m_X8_best) (As := [.int (xs (6 * j + 1))]) (rest := []) dL_law_1039 ml_L_124 mo_X8_best ⟨Nat.le_of_ble_eq_true rfl, Nat.le_of_ble_eq_true rfl⟩ rfl ⟨_, _, rfl⟩ (Nat.le_of_ble_eq_true rfl) rfl rfl (Nat.le_of_ble_eq_true rfl) hc (fun rv M1 z => ?_)
  obtain ⟨z1, z2, z3⟩ := z
  rw [z1]
  show V (m_L_law L xs) 1042 (LL j) [.int b.1] M1 QT
  refine V.aload_n dL_law_1042 rfl rfl rfl ?_
  refine V.aload_n dL_law_1043 rfl rfl rfl ?_
  refine V.iload_n dL_law_1044 rfl rfl rfl ?_
  refine V.iconst (v := nI 1) dL_law_1045 rfl rfl ?_
  refine V.iadd (v := nI (6 * j + 1)) dL_law_1046 (nI_add _ _) rfl ?_
  refine V.sald (X := (L, xs)) (v := xs (6 * j + 1)) rfl dL_law_1047 (vp_in_nI (by omega) (by omega)) (by rw [nI_clamp (by omega)]) rfl ?_
  refine V.callv (md' := m_X9_best) (As := [.int (xs (6 * j + 1))]) (rest := [.int b.1]) dL_law_1048 ml_L_127 mo_X9_best ⟨Nat.le_of_ble_eq_true rfl, Nat.le_of_ble_eq_true rfl⟩ rfl ⟨_, _, rfl⟩ (Nat.le_of_ble_eq_true rfl) rfl rfl (Nat.le_of_ble_eq_true rfl) (hr M1 z2) (fun rv M2 z => ?_)
  obtain ⟨y1, y2⟩ := z
  rw [y1, y2]
  show V (m_L_law L xs) 1051 (LL j) [.int b.1, .int b.1] (ov b.2 M1) QT
  exact V.icmp_eq (tgt := 1530) dL_law_1051 rfl rfl (fun _ => K _ (RQ_ov z3)) (fun z => absurd rfl z)
theorem c_law_28 {L : Nat} {xs : Nat → Int32} {j : Nat} (hL : L ≤ 3072) (hj : 6 * j + 6 ≤ L) {M : Mem} (hR : RQ (9 * j) M M) (K : ∀ M', RQ (9 * j + 9) M' M' → V (m_L_law L xs) 1530 (LL j) [] M' QT) : V (m_L_law L xs) 1056 (LL j) [] M QT := by
  obtain ⟨b, hc, hr⟩ := o_left (B := 9 * j) (by omega) hR (xs (6 * j + 1))
  refine V.aload_n dL_law_1056 rfl rfl rfl ?_
  refine V.aload_n dL_law_1057 rfl rfl rfl ?_
  refine V.iload_n dL_law_1058 rfl rfl rfl ?_
  refine V.iconst (v := nI 1) dL_law_1059 rfl rfl ?_
  refine V.iadd (v := nI (6 * j + 1)) dL_law_1060 (nI_add _ _) rfl ?_
  refine V.sald (X := (L, xs)) (v := xs (6 * j + 1)) rfl dL_law_1061 (vp_in_nI (by omega) (by omega)) (by rw [nI_clamp (by omega)]) rfl ?_
  refine V.callv (md' := m_X8_left) (As := [.int (xs (6 * j + 1))]) (rest := []) dL_law_1062 ml_L_128 mo_X8_left ⟨Nat.le_of_ble_eq_true rfl, Nat.le_of_ble_eq_true rfl⟩ rfl ⟨_, _, rfl⟩ (Nat.le_of_ble_eq_true rfl) rfl rfl (Nat.le_of_ble_eq_true rfl) hc (fun rv M1 z => ?_)
  obtain ⟨z1, z2, z3⟩ := z
  rw [z1]
  show V (m_L_law L xs) 1065 (LL j) [.int b.1] M1 QT
  refine V.aload_n dL_law_1065 rfl rfl rfl ?_
  refine V.aload_n dL_law_1066 rfl rfl rfl ?_
  refine V.iload_n dL_law_1067 rfl rfl rfl ?_
  refine V.iconst (v := nI 1) dL_law_1068 rfl rfl ?_
  refine V.iadd (v := nI (6 * j + 1)) dL_law_1069 (nI_add _ _) rfl ?_
  refine V.sald (X := (L, xs)) (v := xs (6 * j + 1)) rfl dL_law_1070 (vp_in_nI (by omega) (by omega)) (by rw [nI_clamp (by omega)]) rfl ?_
  refine V.callv (md' := m_X9_left) (As := [.int (xs (6 * j + 1))]) (rest := [.int b.1]) dL_law_1071 ml_L_131 mo_X9_left ⟨Nat.le_of_ble_eq_true rfl, Nat.le_of_ble_eq_true rfl⟩ rfl ⟨_, _, rfl⟩ (Nat.le_of_ble_eq_true rfl) rfl rfl (Nat.le_of_ble_eq_true rfl) (hr M1 z2) (fun rv M2 z => ?_)
  obtain ⟨y1, y2⟩ := z
  rw [y1, y2]
  show V (m_L_law L xs) 1074 (LL j) [.int b.1, .int b.1] (ov b.2 M1) QT
  exact V.icmp_eq (tgt := 1530) dL_law_1074 rfl rfl (fun _ => K _ (RQ_ov z3)) (fun z => absurd rfl z)
theorem c_law_29 {L : Nat} {xs : Nat → Int32} {j : Nat} (hL : L ≤ 3072) (hj : 6 * j + 6 ≤ L) {M : Mem} (hR : RQ (9 * j) M M) (K : ∀ M', RQ (9 * j + 9) M' M' → V (m_L_law L xs) 1530 (LL j) [] M' QT) : V (m_L_law L xs) 1079 (LL j) [] M QT := by
  obtain ⟨b, hc, hr⟩ := o_boys (B := 9 * j) (by omega) hR (xs (6 * j + 1))
  refine V.aload_n dL_law_1079 rfl rfl rfl ?_
  refine V.aload_n dL_law_1080 rfl rfl rfl ?_
  refine V.iload_n dL_law_1081 rfl rfl rfl ?_
  refine V.iconst (v := nI 1) dL_law_1082 rfl rfl ?_
  refine V.iadd (v := nI (6 * j + 1)) dL_law_1083 (nI_add _ _) rfl ?_
  refine V.sald (X := (L, xs)) (v := xs (6 * j + 1)) rfl dL_law_1084 (vp_in_nI (by omega) (by omega)) (by rw [nI_clamp (by omega)]) rfl ?_
  refine V.callv (md' := m_X8_boys) (As := [.int (xs (6 * j + 1))]) (rest := []) dL_law_1085 ml_L_132 mo_X8_boys ⟨Nat.le_of_ble_eq_true rfl, Nat.le_of_ble_eq_true rfl⟩ rfl ⟨_, _, rfl⟩ (Nat.le_of_ble_eq_true rfl) rfl rfl (Nat.le_of_ble_eq_true rfl) hc (fun rv M1 z => ?_)
  obtain ⟨z1, z2, z3⟩ := z
  rw [z1]
  show V (m_L_law L xs) 1088 (LL j) [.int b.1] M1 QT
  refine V.aload_n dL_law_1088 rfl rfl rfl ?_
  refine V.aload_n dL_law_1089 rfl rfl rfl ?_
  refine V.iload_n dL_law_1090 rfl rfl rfl ?_
  refine V.iconst (v := nI 1) dL_law_1091 rfl rfl ?_
  refine V.iadd (v := nI (6 * j + 1)) dL_law_1092 (nI_add _ _) rfl ?_
  refine V.sald (X := (L, xs)) (v := xs (6 * j + 1)) rfl dL_law_1093 (vp_in_nI (by omega) (by omega)) (by rw [nI_clamp (by omega)]) rfl ?_
  refine V.callv (md' := m_X9_boys) (As := [.int (xs (6 * j + 1))]) (rest := [.int b.1]) dL_law_1094 ml_L_135 mo_X9_boys ⟨Nat.le_of_ble_eq_true rfl, Nat.le_of_ble_eq_true rfl⟩ rfl ⟨_, _, rfl⟩ (Nat.le_of_ble_eq_true rfl) rfl rfl (Nat.le_of_ble_eq_true rfl) (hr M1 z2) (fun rv M2 z => ?_)
  obtain ⟨y1, y2⟩ := z
  rw [y1, y2]
  show V (m_L_law L xs) 1097 (LL j) [.int b.1, .int b.1] (ov b.2 M1) QT
  exact V.icmp_eq (tgt := 1530) dL_law_1097 rfl rfl (fun _ => K _ (RQ_ov z3)) (fun z => absurd rfl z)
theorem c_law_30 {L : Nat} {xs : Nat → Int32} {j : Nat} (hL : L ≤ 3072) (hj : 6 * j + 6 ≤ L) {M : Mem} (hR : RQ (9 * j) M M) (K : ∀ M', RQ (9 * j + 9) M' M' → V (m_L_law L xs) 1530 (LL j) [] M' QT) : V (m_L_law L xs) 1102 (LL j) [] M QT := by
  obtain ⟨b, hc, hr⟩ := o_seed (B := 9 * j) (by omega) hR (xs (6 * j + 1))
  refine V.aload_n dL_law_1102 rfl rfl rfl ?_
  refine V.aload_n dL_law_1103 rfl rfl rfl ?_
  refine V.iload_n dL_law_1104 rfl rfl rfl ?_
  refine V.iconst (v := nI 1) dL_law_1105 rfl rfl ?_
  refine V.iadd (v := nI (6 * j + 1)) dL_law_1106 (nI_add _ _) rfl ?_
  refine V.sald (X := (L, xs)) (v := xs (6 * j + 1)) rfl dL_law_1107 (vp_in_nI (by omega) (by omega)) (by rw [nI_clamp (by omega)]) rfl ?_
  refine V.callv (md' := m_X8_seed) (As := [.int (xs (6 * j + 1))]) (rest := []) dL_law_1108 ml_L_136 mo_X8_seed ⟨Nat.le_of_ble_eq_true rfl, Nat.le_of_ble_eq_true rfl⟩ rfl ⟨_, _, rfl⟩ (Nat.le_of_ble_eq_true rfl) rfl rfl (Nat.le_of_ble_eq_true rfl) hc (fun rv M1 z => ?_)
  obtain ⟨z1, z2, z3⟩ := z
  rw [z1]
  show V (m_L_law L xs) 1111 (LL j) [.int b.1] M1 QT
  refine V.aload_n dL_law_1111 rfl rfl rfl ?_
  refine V.aload_n dL_law_1112 rfl rfl rfl ?_
  refine V.iload_n dL_law_1113 rfl rfl rfl ?_
  refine V.iconst (v := nI 1) dL_law_1114 rfl rfl ?_
  refine V.iadd (v := nI (6 * j + 1)) dL_law_1115 (nI_add _ _) rfl ?_
  refine V.sald (X := (L, xs)) (v := xs (6 * j + 1)) rfl dL_law_1116 (vp_in_nI (by omega) (by omega)) (by rw [nI_clamp (by omega)]) rfl ?_
  refine V.callv (md' := m_X9_seed) (As := [.int (xs (6 * j + 1))]) (rest := [.int b.1]) dL_law_1117 ml_L_139 mo_X9_seed ⟨Nat.le_of_ble_eq_true rfl, Nat.le_of_ble_eq_true rfl⟩ rfl ⟨_, _, rfl⟩ (Nat.le_of_ble_eq_true rfl) rfl rfl (Nat.le_of_ble_eq_true rfl) (hr M1 z2) (fun rv M2 z => ?_)
  obtain ⟨y1, y2⟩ := z
  rw [y1, y2]
  show V (m_L_law L xs) 1120 (LL j) [.int b.1, .int b.1] (ov b.2 M1) QT
  exact V.icmp_eq (tgt := 1530) dL_law_1120 rfl rfl (fun _ => K _ (RQ_ov z3)) (fun z => absurd rfl z)
theorem c_law_31 {L : Nat} {xs : Nat → Int32} {j : Nat} (hL : L ≤ 3072) (hj : 6 * j + 6 ≤ L) {M : Mem} (hR : RQ (9 * j) M M) (K : ∀ M', RQ (9 * j + 9) M' M' → V (m_L_law L xs) 1530 (LL j) [] M' QT) : V (m_L_law L xs) 1125 (LL j) [] M QT := by
  obtain ⟨b, hc, hr⟩ := o_feed (B := 9 * j) (by omega) hR (xs (6 * j + 1)) (xs (6 * j + 2))
  refine V.aload_n dL_law_1125 rfl rfl rfl ?_
  refine V.aload_n dL_law_1126 rfl rfl rfl ?_
  refine V.iload_n dL_law_1127 rfl rfl rfl ?_
  refine V.iconst (v := nI 1) dL_law_1128 rfl rfl ?_
  refine V.iadd (v := nI (6 * j + 1)) dL_law_1129 (nI_add _ _) rfl ?_
  refine V.sald (X := (L, xs)) (v := xs (6 * j + 1)) rfl dL_law_1130 (vp_in_nI (by omega) (by omega)) (by rw [nI_clamp (by omega)]) rfl ?_
  refine V.aload_n dL_law_1131 rfl rfl rfl ?_
  refine V.iload_n dL_law_1132 rfl rfl rfl ?_
  refine V.iconst (v := nI 2) dL_law_1133 rfl rfl ?_
  refine V.iadd (v := nI (6 * j + 2)) dL_law_1134 (nI_add _ _) rfl ?_
  refine V.sald (X := (L, xs)) (v := xs (6 * j + 2)) rfl dL_law_1135 (vp_in_nI (by omega) (by omega)) (by rw [nI_clamp (by omega)]) rfl ?_
  refine V.callv (md' := m_X8_feed) (As := [.int (xs (6 * j + 1)), .int (xs (6 * j + 2))]) (rest := []) dL_law_1136 ml_L_140 mo_X8_feed ⟨Nat.le_of_ble_eq_true rfl, Nat.le_of_ble_eq_true rfl⟩ rfl ⟨_, _, rfl⟩ (Nat.le_of_ble_eq_true rfl) rfl rfl (Nat.le_of_ble_eq_true rfl) hc (fun rv M1 z => ?_)
  obtain ⟨z1, z2, z3⟩ := z
  rw [z1]
  show V (m_L_law L xs) 1139 (LL j) [.int b.1] M1 QT
  refine V.aload_n dL_law_1139 rfl rfl rfl ?_
  refine V.aload_n dL_law_1140 rfl rfl rfl ?_
  refine V.iload_n dL_law_1141 rfl rfl rfl ?_
  refine V.iconst (v := nI 1) dL_law_1142 rfl rfl ?_
  refine V.iadd (v := nI (6 * j + 1)) dL_law_1143 (nI_add _ _) rfl ?_
  refine V.sald (X := (L, xs)) (v := xs (6 * j + 1)) rfl dL_law_1144 (vp_in_nI (by omega) (by omega)) (by rw [nI_clamp (by omega)]) rfl ?_
  refine V.aload_n dL_law_1145 rfl rfl rfl ?_
  refine V.iload_n dL_law_1146 rfl rfl rfl ?_
  refine V.iconst (v := nI 2) dL_law_1147 rfl rfl ?_
  refine V.iadd (v := nI (6 * j + 2)) dL_law_1148 (nI_add _ _) rfl ?_
  refine V.sald (X := (L, xs)) (v := xs (6 * j + 2)) rfl dL_law_1149 (vp_in_nI (by omega) (by omega)) (by rw [nI_clamp (by omega)]) rfl ?_
  refine V.callv (md' := m_X9_feed) (As := [.int (xs (6 * j + 1)), .int (xs (6 * j + 2))]) (rest := [.int b.1]) dL_law_1150 ml_L_143 mo_X9_feed ⟨Nat.le_of_ble_eq_true rfl, Nat.le_of_ble_eq_true rfl⟩ rfl ⟨_, _, rfl⟩ (Nat.le_of_ble_eq_true rfl) rfl rfl (Nat.le_of_ble_eq_true rfl) (hr M1 z2) (fun rv M2 z => ?_)
  obtain ⟨y1, y2⟩ := z
  rw [y1, y2]
  show V (m_L_law L xs) 1153 (LL j) [.int b.1, .int b.1] (ov b.2 M1) QT
  exact V.icmp_eq (tgt := 1530) dL_law_1153 rfl rfl (fun _ => K _ (RQ_ov z3)) (fun z => absurd rfl z)
theorem c_law_32 {L : Nat} {xs : Nat → Int32} {j : Nat} (hL : L ≤ 3072) (hj : 6 * j + 6 ≤ L) {M : Mem} (hR : RQ (9 * j) M M) (K : ∀ M', RQ (9 * j + 9) M' M' → V (m_L_law L xs) 1530 (LL j) [] M' QT) : V (m_L_law L xs) 1158 (LL j) [] M QT := by
  obtain ⟨b, hc, hr⟩ := o_wipe (B := 9 * j) (by omega) hR
  refine V.aload_n dL_law_1158 rfl rfl rfl ?_
  refine V.callv (md' := m_X8_wipe) (As := []) (rest := []) dL_law_1159 ml_L_144 mo_X8_wipe ⟨Nat.le_of_ble_eq_true rfl, Nat.le_of_ble_eq_true rfl⟩ rfl ⟨_, _, rfl⟩ (Nat.le_of_ble_eq_true rfl) rfl rfl (Nat.le_of_ble_eq_true rfl) hc (fun rv M1 z => ?_)
  obtain ⟨z1, z2, z3⟩ := z
  rw [z1]
  show V (m_L_law L xs) 1162 (LL j) [.int b.1] M1 QT
  refine V.aload_n dL_law_1162 rfl rfl rfl ?_
  refine V.callv (md' := m_X9_wipe) (As := []) (rest := [.int b.1]) dL_law_1163 ml_L_148 mo_X9_wipe ⟨Nat.le_of_ble_eq_true rfl, Nat.le_of_ble_eq_true rfl⟩ rfl ⟨_, _, rfl⟩ (Nat.le_of_ble_eq_true rfl) rfl rfl (Nat.le_of_ble_eq_true rfl) (hr M1 z2) (fun rv M2 z => ?_)
  obtain ⟨y1, y2⟩ := z
  rw [y1, y2]
  show V (m_L_law L xs) 1166 (LL j) [.int b.1, .int b.1] (ov b.2 M1) QT
  exact V.icmp_eq (tgt := 1530) dL_law_1166 rfl rfl (fun _ => K _ (RQ_ov z3)) (fun z => absurd rfl z)
theorem c_law_33 {L : Nat} {xs : Nat → Int32} {j : Nat} (hL : L ≤ 3072) (hj : 6 * j + 6 ≤ L) {M : Mem} (hR : RQ (9 * j) M M) (K : ∀ M', RQ (9 * j + 9) M' M' → V (m_L_law L xs) 1530 (LL j) [] M' QT) : V (m_L_law L xs) 1171 (LL j) [] M QT := by
  obtain ⟨b, hc, hr⟩ := o_text (B := 9 * j) (by omega) hR
  refine V.aload_n dL_law_1171 rfl rfl rfl ?_
  refine V.callv (md' := m_X8_text) (As := []) (rest := []) dL_law_1172 ml_L_149 mo_X8_text ⟨Nat.le_of_ble_eq_true rfl, Nat.le_of_ble_eq_true rfl⟩ rfl ⟨_, _, rfl⟩ (Nat.le_of_ble_eq_true rfl) rfl rfl (Nat.le_of_ble_eq_true rfl) hc (fun rv M1 z => ?_)
  obtain ⟨z1, z2, z3⟩ := z
  rw [z1]
  show V (m_L_law L xs) 1175 (LL j) [.int b.1] M1 QT
  refine V.aload_n dL_law_1175 rfl rfl rfl ?_
  refine V.callv (md' := m_X9_text) (As := []) (rest := [.int b.1]) dL_law_1176 ml_L_152 mo_X9_text ⟨Nat.le_of_ble_eq_true rfl, Nat.le_of_ble_eq_true rfl⟩ rfl ⟨_, _, rfl⟩ (Nat.le_of_ble_eq_true rfl) rfl rfl (Nat.le_of_ble_eq_true rfl) (hr M1 z2) (fun rv M2 z => ?_)
  obtain ⟨y1, y2⟩ := z
  rw [y1, y2]
  show V (m_L_law L xs) 1179 (LL j) [.int b.1, .int b.1] (ov b.2 M1) QT
  exact V.icmp_eq (tgt := 1530) dL_law_1179 rfl rfl (fun _ => K _ (RQ_ov z3)) (fun z => absurd rfl z)
theorem c_law_34 {L : Nat} {xs : Nat → Int32} {j : Nat} (hL : L ≤ 3072) (hj : 6 * j + 6 ≤ L) {M : Mem} (hR : RQ (9 * j) M M) (K : ∀ M', RQ (9 * j + 9) M' M' → V (m_L_law L xs) 1530 (LL j) [] M' QT) : V (m_L_law L xs) 1184 (LL j) [] M QT := by
  obtain ⟨b, hc, hr⟩ := o_hold (B := 9 * j) (by omega) hR (xs (6 * j + 1)) (xs (6 * j + 2))
  refine V.aload_n dL_law_1184 rfl rfl rfl ?_
  refine V.aload_n dL_law_1185 rfl rfl rfl ?_
  refine V.iload_n dL_law_1186 rfl rfl rfl ?_
  refine V.iconst (v := nI 1) dL_law_1187 rfl rfl ?_
  refine V.iadd (v := nI (6 * j + 1)) dL_law_1188 (nI_add _ _) rfl ?_
  refine V.sald (X := (L, xs)) (v := xs (6 * j + 1)) rfl dL_law_1189 (vp_in_nI (by omega) (by omega)) (by rw [nI_clamp (by omega)]) rfl ?_
  refine V.aload_n dL_law_1190 rfl rfl rfl ?_
  refine V.iload_n dL_law_1191 rfl rfl rfl ?_
  refine V.iconst (v := nI 2) dL_law_1192 rfl rfl ?_
  refine V.iadd (v := nI (6 * j + 2)) dL_law_1193 (nI_add _ _) rfl ?_
  refine V.sald (X := (L, xs)) (v := xs (6 * j + 2)) rfl dL_law_1194 (vp_in_nI (by omega) (by omega)) (by rw [nI_clamp (by omega)]) rfl ?_
  refine V.callv (md' := m_X8_hold) (As := [.int (xs (6 * j + 1)), .int (xs (6 * j + 2))]) (rest := []) dL_law_1195 ml_L_153 mo_X8_hold ⟨Nat.le_of_ble_eq_true rfl, Nat.le_of_ble_eq_true rfl⟩ rfl ⟨_, _, rfl⟩ (Nat.le_of_ble_eq_true rfl) rfl rfl (Nat.le_of_ble_eq_true rfl) hc (fun rv M1 z => ?_)
  obtain ⟨z1, z2, z3⟩ := z
  rw [z1]
  show V (m_L_law L xs) 1198 (LL j) [.int b.1] M1 QT
  refine V.aload_n dL_law_1198 rfl rfl rfl ?_
  refine V.aload_n dL_law_1199 rfl rfl rfl ?_
  refine V.iload_n dL_law_1200 rfl rfl rfl ?_
  refine V.iconst (v := nI 1) dL_law_1201 rfl rfl ?_
  refine V.iadd (v := nI (6 * j + 1)) dL_law_1202 (nI_add _ _) rfl ?_
  refine V.sald (X := (L, xs)) (v := xs (6 * j + 1)) rfl dL_law_1203 (vp_in_nI (by omega) (by omega)) (by rw [nI_clamp (by omega)]) rfl ?_
  refine V.aload_n dL_law_1204 rfl rfl rfl ?_
  refine V.iload_n dL_law_1205 rfl rfl rfl ?_
  refine V.iconst (v := nI 2) dL_law_1206 rfl rfl ?_
  refine V.iadd (v := nI (6 * j + 2)) dL_law_1207 (nI_add _ _) rfl ?_
  refine V.sald (X := (L, xs)) (v := xs (6 * j + 2)) rfl dL_law_1208 (vp_in_nI (by omega) (by omega)) (by rw [nI_clamp (by omega)]) rfl ?_
  refine V.callv (md' := m_X9_hold) (As := [.int (xs (6 * j + 1)), .int (xs (6 * j + 2))]) (rest := [.int b.1]) dL_law_1209 ml_L_156 mo_X9_hold ⟨Nat.le_of_ble_eq_true rfl, Nat.le_of_ble_eq_true rfl⟩ rfl ⟨_, _, rfl⟩ (Nat.le_of_ble_eq_true rfl) rfl rfl (Nat.le_of_ble_eq_true rfl) (hr M1 z2) (fun rv M2 z => ?_)
  obtain ⟨y1, y2⟩ := z
  rw [y1, y2]
  show V (m_L_law L xs) 1212 (LL j) [.int b.1, .int b.1] (ov b.2 M1) QT
  exact V.icmp_eq (tgt := 1530) dL_law_1212 rfl rfl (fun _ => K _ (RQ_ov z3)) (fun z => absurd rfl z)
theorem c_law_35 {L : Nat} {xs : Nat → Int32} {j : Nat} (hL : L ≤ 3072) (hj : 6 * j + 6 ≤ L) {M : Mem} (hR : RQ (9 * j) M M) (K : ∀ M', RQ (9 * j + 9) M' M' → V (m_L_law L xs) 1530 (LL j) [] M' QT) : V (m_L_law L xs) 1217 (LL j) [] M QT := by
  obtain ⟨b, hc, hr⟩ := o_as (B := 9 * j) (by omega) hR (xs (6 * j + 1)) (xs (6 * j + 2))
  refine V.aload_n dL_law_1217 rfl rfl rfl ?_
  refine V.aload_n dL_law_1218 rfl rfl rfl ?_
  refine V.iload_n dL_law_1219 rfl rfl rfl ?_
  refine V.iconst (v := nI 1) dL_law_1220 rfl rfl ?_
  refine V.iadd (v := nI (6 * j + 1)) dL_law_1221 (nI_add _ _) rfl ?_
  refine V.sald (X := (L, xs)) (v := xs (6 * j + 1)) rfl dL_law_1222 (vp_in_nI (by omega) (by omega)) (by rw [nI_clamp (by omega)]) rfl ?_
  refine V.aload_n dL_law_1223 rfl rfl rfl ?_
  refine V.iload_n dL_law_1224 rfl rfl rfl ?_
  refine V.iconst (v := nI 2) dL_law_1225 rfl rfl ?_
  refine V.iadd (v := nI (6 * j + 2)) dL_law_1226 (nI_add _ _) rfl ?_
  refine V.sald (X := (L, xs)) (v := xs (6 * j + 2)) rfl dL_law_1227 (vp_in_nI (by omega) (by omega)) (by rw [nI_clamp (by omega)]) rfl ?_
  refine V.callv (md' := m_X8_as) (As := [.int (xs (6 * j + 1)), .int (xs (6 * j + 2))]) (rest := []) dL_law_1228 ml_L_157 mo_X8_as ⟨Nat.le_of_ble_eq_true rfl, Nat.le_of_ble_eq_true rfl⟩ rfl ⟨_, _, rfl⟩ (Nat.le_of_ble_eq_true rfl) rfl rfl (Nat.le_of_ble_eq_true rfl) hc (fun rv M1 z => ?_)
  obtain ⟨z1, z2, z3⟩ := z
  rw [z1]
  show V (m_L_law L xs) 1231 (LL j) [.int b.1] M1 QT
  refine V.aload_n dL_law_1231 rfl rfl rfl ?_
  refine V.aload_n dL_law_1232 rfl rfl rfl ?_
  refine V.iload_n dL_law_1233 rfl rfl rfl ?_
  refine V.iconst (v := nI 1) dL_law_1234 rfl rfl ?_
  refine V.iadd (v := nI (6 * j + 1)) dL_law_1235 (nI_add _ _) rfl ?_
  refine V.sald (X := (L, xs)) (v := xs (6 * j + 1)) rfl dL_law_1236 (vp_in_nI (by omega) (by omega)) (by rw [nI_clamp (by omega)]) rfl ?_
  refine V.aload_n dL_law_1237 rfl rfl rfl ?_
  refine V.iload_n dL_law_1238 rfl rfl rfl ?_
  refine V.iconst (v := nI 2) dL_law_1239 rfl rfl ?_
  refine V.iadd (v := nI (6 * j + 2)) dL_law_1240 (nI_add _ _) rfl ?_
  refine V.sald (X := (L, xs)) (v := xs (6 * j + 2)) rfl dL_law_1241 (vp_in_nI (by omega) (by omega)) (by rw [nI_clamp (by omega)]) rfl ?_
  refine V.callv (md' := m_X9_as) (As := [.int (xs (6 * j + 1)), .int (xs (6 * j + 2))]) (rest := [.int b.1]) dL_law_1242 ml_L_160 mo_X9_as ⟨Nat.le_of_ble_eq_true rfl, Nat.le_of_ble_eq_true rfl⟩ rfl ⟨_, _, rfl⟩ (Nat.le_of_ble_eq_true rfl) rfl rfl (Nat.le_of_ble_eq_true rfl) (hr M1 z2) (fun rv M2 z => ?_)
  obtain ⟨y1, y2⟩ := z
  rw [y1, y2]
  show V (m_L_law L xs) 1245 (LL j) [.int b.1, .int b.1] (ov b.2 M1) QT
  exact V.icmp_eq (tgt := 1530) dL_law_1245 rfl rfl (fun _ => K _ (RQ_ov z3)) (fun z => absurd rfl z)
theorem c_law_36 {L : Nat} {xs : Nat → Int32} {j : Nat} (hL : L ≤ 3072) (hj : 6 * j + 6 ≤ L) {M : Mem} (hR : RQ (9 * j) M M) (K : ∀ M', RQ (9 * j + 9) M' M' → V (m_L_law L xs) 1530 (LL j) [] M' QT) : V (m_L_law L xs) 1250 (LL j) [] M QT := by
  obtain ⟨b, hc, hr⟩ := o_sheet (B := 9 * j) (by omega) hR (xs (6 * j + 1)) (xs (6 * j + 2)) (xs (6 * j + 3))
  refine V.aload_n dL_law_1250 rfl rfl rfl ?_
  refine V.aload_n dL_law_1251 rfl rfl rfl ?_
  refine V.iload_n dL_law_1252 rfl rfl rfl ?_
  refine V.iconst (v := nI 1) dL_law_1253 rfl rfl ?_
  refine V.iadd (v := nI (6 * j + 1)) dL_law_1254 (nI_add _ _) rfl ?_
  refine V.sald (X := (L, xs)) (v := xs (6 * j + 1)) rfl dL_law_1255 (vp_in_nI (by omega) (by omega)) (by rw [nI_clamp (by omega)]) rfl ?_
  refine V.aload_n dL_law_1256 rfl rfl rfl ?_
  refine V.iload_n dL_law_1257 rfl rfl rfl ?_
  refine V.iconst (v := nI 2) dL_law_1258 rfl rfl ?_
  refine V.iadd (v := nI (6 * j + 2)) dL_law_1259 (nI_add _ _) rfl ?_
  refine V.sald (X := (L, xs)) (v := xs (6 * j + 2)) rfl dL_law_1260 (vp_in_nI (by omega) (by omega)) (by rw [nI_clamp (by omega)]) rfl ?_
  refine V.aload_n dL_law_1261 rfl rfl rfl ?_
  refine V.iload_n dL_law_1262 rfl rfl rfl ?_
  refine V.iconst (v := nI 3) dL_law_1263 rfl rfl ?_
  refine V.iadd (v := nI (6 * j + 3)) dL_law_1264 (nI_add _ _) rfl ?_
  refine V.sald (X := (L, xs)) (v := xs (6 * j + 3)) rfl dL_law_1265 (vp_in_nI (by omega) (by omega)) (by rw [nI_clamp (by omega)]) rfl ?_
  refine V.callv (md' := m_X8_sheet) (As := [.int (xs (6 * j + 1)), .int (xs (6 * j + 2)), .int (xs (6 * j + 3))]) (rest := []) dL_law_1266 ml_L_161 mo_X8_sheet ⟨Nat.le_of_ble_eq_true rfl, Nat.le_of_ble_eq_true rfl⟩ rfl ⟨_, _, rfl⟩ (Nat.le_of_ble_eq_true rfl) rfl rfl (Nat.le_of_ble_eq_true rfl) hc (fun rv M1 z => ?_)
  obtain ⟨z1, z2, z3⟩ := z
  rw [z1]
  show V (m_L_law L xs) 1269 (LL j) [.int b.1] M1 QT
  refine V.aload_n dL_law_1269 rfl rfl rfl ?_
  refine V.aload_n dL_law_1270 rfl rfl rfl ?_
  refine V.iload_n dL_law_1271 rfl rfl rfl ?_
  refine V.iconst (v := nI 1) dL_law_1272 rfl rfl ?_
  refine V.iadd (v := nI (6 * j + 1)) dL_law_1273 (nI_add _ _) rfl ?_
  refine V.sald (X := (L, xs)) (v := xs (6 * j + 1)) rfl dL_law_1274 (vp_in_nI (by omega) (by omega)) (by rw [nI_clamp (by omega)]) rfl ?_
  refine V.aload_n dL_law_1275 rfl rfl rfl ?_
  refine V.iload_n dL_law_1276 rfl rfl rfl ?_
  refine V.iconst (v := nI 2) dL_law_1277 rfl rfl ?_
  refine V.iadd (v := nI (6 * j + 2)) dL_law_1278 (nI_add _ _) rfl ?_
  refine V.sald (X := (L, xs)) (v := xs (6 * j + 2)) rfl dL_law_1279 (vp_in_nI (by omega) (by omega)) (by rw [nI_clamp (by omega)]) rfl ?_
  refine V.aload_n dL_law_1280 rfl rfl rfl ?_
  refine V.iload_n dL_law_1281 rfl rfl rfl ?_
  refine V.iconst (v := nI 3) dL_law_1282 rfl rfl ?_
  refine V.iadd (v := nI (6 * j + 3)) dL_law_1283 (nI_add _ _) rfl ?_
  refine V.sald (X := (L, xs)) (v := xs (6 * j + 3)) rfl dL_law_1284 (vp_in_nI (by omega) (by omega)) (by rw [nI_clamp (by omega)]) rfl ?_
  refine V.callv (md' := m_X9_sheet) (As := [.int (xs (6 * j + 1)), .int (xs (6 * j + 2)), .int (xs (6 * j + 3))]) (rest := [.int b.1]) dL_law_1285 ml_L_164 mo_X9_sheet ⟨Nat.le_of_ble_eq_true rfl, Nat.le_of_ble_eq_true rfl⟩ rfl ⟨_, _, rfl⟩ (Nat.le_of_ble_eq_true rfl) rfl rfl (Nat.le_of_ble_eq_true rfl) (hr M1 z2) (fun rv M2 z => ?_)
  obtain ⟨y1, y2⟩ := z
  rw [y1, y2]
  show V (m_L_law L xs) 1288 (LL j) [.int b.1, .int b.1] (ov b.2 M1) QT
  exact V.icmp_eq (tgt := 1530) dL_law_1288 rfl rfl (fun _ => K _ (RQ_ov z3)) (fun z => absurd rfl z)
theorem c_law_37 {L : Nat} {xs : Nat → Int32} {j : Nat} (hL : L ≤ 3072) (hj : 6 * j + 6 ≤ L) {M : Mem} (hR : RQ (9 * j) M M) (K : ∀ M', RQ (9 * j + 9) M' M' → V (m_L_law L xs) 1530 (LL j) [] M' QT) : V (m_L_law L xs) 1293 (LL j) [] M QT := by
  obtain ⟨b, hc, hr⟩ := o_write (B := 9 * j) (by omega) hR (xs (6 * j + 1)) (xs (6 * j + 2)) (xs (6 * j + 3))
  refine V.aload_n dL_law_1293 rfl rfl rfl ?_
  refine V.aload_n dL_law_1294 rfl rfl rfl ?_
  refine V.iload_n dL_law_1295 rfl rfl rfl ?_
  refine V.iconst (v := nI 1) dL_law_1296 rfl rfl ?_
  refine V.iadd (v := nI (6 * j + 1)) dL_law_1297 (nI_add _ _) rfl ?_
  refine V.sald (X := (L, xs)) (v := xs (6 * j + 1)) rfl dL_law_1298 (vp_in_nI (by omega) (by omega)) (by rw [nI_clamp (by omega)]) rfl ?_
  refine V.aload_n dL_law_1299 rfl rfl rfl ?_
  refine V.iload_n dL_law_1300 rfl rfl rfl ?_
  refine V.iconst (v := nI 2) dL_law_1301 rfl rfl ?_
  refine V.iadd (v := nI (6 * j + 2)) dL_law_1302 (nI_add _ _) rfl ?_
  refine V.sald (X := (L, xs)) (v := xs (6 * j + 2)) rfl dL_law_1303 (vp_in_nI (by omega) (by omega)) (by rw [nI_clamp (by omega)]) rfl ?_
  refine V.aload_n dL_law_1304 rfl rfl rfl ?_
  refine V.iload_n dL_law_1305 rfl rfl rfl ?_
  refine V.iconst (v := nI 3) dL_law_1306 rfl rfl ?_
  refine V.iadd (v := nI (6 * j + 3)) dL_law_1307 (nI_add _ _) rfl ?_
  refine V.sald (X := (L, xs)) (v := xs (6 * j + 3)) rfl dL_law_1308 (vp_in_nI (by omega) (by omega)) (by rw [nI_clamp (by omega)]) rfl ?_
  refine V.callv (md' := m_X8_write) (As := [.int (xs (6 * j + 1)), .int (xs (6 * j + 2)), .int (xs (6 * j + 3))]) (rest := []) dL_law_1309 ml_L_165 mo_X8_write ⟨Nat.le_of_ble_eq_true rfl, Nat.le_of_ble_eq_true rfl⟩ rfl ⟨_, _, rfl⟩ (Nat.le_of_ble_eq_true rfl) rfl rfl (Nat.le_of_ble_eq_true rfl) hc (fun rv M1 z => ?_)
  obtain ⟨z1, z2, z3⟩ := z
  rw [z1]
  show V (m_L_law L xs) 1312 (LL j) [.int b.1] M1 QT
  refine V.aload_n dL_law_1312 rfl rfl rfl ?_
  refine V.aload_n dL_law_1313 rfl rfl rfl ?_
  refine V.iload_n dL_law_1314 rfl rfl rfl ?_
  refine V.iconst (v := nI 1) dL_law_1315 rfl rfl ?_
  refine V.iadd (v := nI (6 * j + 1)) dL_law_1316 (nI_add _ _) rfl ?_
  refine V.sald (X := (L, xs)) (v := xs (6 * j + 1)) rfl dL_law_1317 (vp_in_nI (by omega) (by omega)) (by rw [nI_clamp (by omega)]) rfl ?_
  refine V.aload_n dL_law_1318 rfl rfl rfl ?_
  refine V.iload_n dL_law_1319 rfl rfl rfl ?_
  refine V.iconst (v := nI 2) dL_law_1320 rfl rfl ?_
  refine V.iadd (v := nI (6 * j + 2)) dL_law_1321 (nI_add _ _) rfl ?_
  refine V.sald (X := (L, xs)) (v := xs (6 * j + 2)) rfl dL_law_1322 (vp_in_nI (by omega) (by omega)) (by rw [nI_clamp (by omega)]) rfl ?_
  refine V.aload_n dL_law_1323 rfl rfl rfl ?_
  refine V.iload_n dL_law_1324 rfl rfl rfl ?_
  refine V.iconst (v := nI 3) dL_law_1325 rfl rfl ?_
  refine V.iadd (v := nI (6 * j + 3)) dL_law_1326 (nI_add _ _) rfl ?_
  refine V.sald (X := (L, xs)) (v := xs (6 * j + 3)) rfl dL_law_1327 (vp_in_nI (by omega) (by omega)) (by rw [nI_clamp (by omega)]) rfl ?_
  refine V.callv (md' := m_X9_write) (As := [.int (xs (6 * j + 1)), .int (xs (6 * j + 2)), .int (xs (6 * j + 3))]) (rest := [.int b.1]) dL_law_1328 ml_L_168 mo_X9_write ⟨Nat.le_of_ble_eq_true rfl, Nat.le_of_ble_eq_true rfl⟩ rfl ⟨_, _, rfl⟩ (Nat.le_of_ble_eq_true rfl) rfl rfl (Nat.le_of_ble_eq_true rfl) (hr M1 z2) (fun rv M2 z => ?_)
  obtain ⟨y1, y2⟩ := z
  rw [y1, y2]
  show V (m_L_law L xs) 1331 (LL j) [.int b.1, .int b.1] (ov b.2 M1) QT
  exact V.icmp_eq (tgt := 1530) dL_law_1331 rfl rfl (fun _ => K _ (RQ_ov z3)) (fun z => absurd rfl z)
theorem c_law_38 {L : Nat} {xs : Nat → Int32} {j : Nat} (hL : L ≤ 3072) (hj : 6 * j + 6 ≤ L) {M : Mem} (hR : RQ (9 * j) M M) (K : ∀ M', RQ (9 * j + 9) M' M' → V (m_L_law L xs) 1530 (LL j) [] M' QT) : V (m_L_law L xs) 1336 (LL j) [] M QT := by
  obtain ⟨b, hc, hr⟩ := o_copy (B := 9 * j) (by omega) hR (xs (6 * j + 1)) (xs (6 * j + 2)) (xs (6 * j + 3)) (xs (6 * j + 4)) (xs (6 * j + 5))
  refine V.aload_n dL_law_1336 rfl rfl rfl ?_
  refine V.aload_n dL_law_1337 rfl rfl rfl ?_
  refine V.iload_n dL_law_1338 rfl rfl rfl ?_
  refine V.iconst (v := nI 1) dL_law_1339 rfl rfl ?_
  refine V.iadd (v := nI (6 * j + 1)) dL_law_1340 (nI_add _ _) rfl ?_
  refine V.sald (X := (L, xs)) (v := xs (6 * j + 1)) rfl dL_law_1341 (vp_in_nI (by omega) (by omega)) (by rw [nI_clamp (by omega)]) rfl ?_
  refine V.aload_n dL_law_1342 rfl rfl rfl ?_
  refine V.iload_n dL_law_1343 rfl rfl rfl ?_
  refine V.iconst (v := nI 2) dL_law_1344 rfl rfl ?_
  refine V.iadd (v := nI (6 * j + 2)) dL_law_1345 (nI_add _ _) rfl ?_
  refine V.sald (X := (L, xs)) (v := xs (6 * j + 2)) rfl dL_law_1346 (vp_in_nI (by omega) (by omega)) (by rw [nI_clamp (by omega)]) rfl ?_
  refine V.aload_n dL_law_1347 rfl rfl rfl ?_
  refine V.iload_n dL_law_1348 rfl rfl rfl ?_
  refine V.iconst (v := nI 3) dL_law_1349 rfl rfl ?_
  refine V.iadd (v := nI (6 * j + 3)) dL_law_1350 (nI_add _ _) rfl ?_
  refine V.sald (X := (L, xs)) (v := xs (6 * j + 3)) rfl dL_law_1351 (vp_in_nI (by omega) (by omega)) (by rw [nI_clamp (by omega)]) rfl ?_
  refine V.aload_n dL_law_1352 rfl rfl rfl ?_
  refine V.iload_n dL_law_1353 rfl rfl rfl ?_
  refine V.iconst (v := nI 4) dL_law_1354 rfl rfl ?_
  refine V.iadd (v := nI (6 * j + 4)) dL_law_1355 (nI_add _ _) rfl ?_
  refine V.sald (X := (L, xs)) (v := xs (6 * j + 4)) rfl dL_law_1356 (vp_in_nI (by omega) (by omega)) (by rw [nI_clamp (by omega)]) rfl ?_
  refine V.aload_n dL_law_1357 rfl rfl rfl ?_
  refine V.iload_n dL_law_1358 rfl rfl rfl ?_
  refine V.iconst (v := nI 5) dL_law_1359 rfl rfl ?_
  refine V.iadd (v := nI (6 * j + 5)) dL_law_1360 (nI_add _ _) rfl ?_
  refine V.sald (X := (L, xs)) (v := xs (6 * j + 5)) rfl dL_law_1361 (vp_in_nI (by omega) (by omega)) (by rw [nI_clamp (by omega)]) rfl ?_
  refine V.callv (md' := m_X8_copy) (As := [.int (xs (6 * j + 1)), .int (xs (6 * j + 2)), .int (xs (6 * j + 3)), .int (xs (6 * j + 4)), .int (xs (6 * j + 5))]) (rest := []) dL_law_1362 ml_L_169 mo_X8_copy ⟨Nat.le_of_ble_eq_true rfl, Nat.le_of_ble_eq_true rfl⟩ rfl ⟨_, _, rfl⟩ (Nat.le_of_ble_eq_true rfl) rfl rfl (Nat.le_of_ble_eq_true rfl) hc (fun rv M1 z => ?_)
  obtain ⟨z1, z2, z3⟩ := z
  rw [z1]
  show V (m_L_law L xs) 1365 (LL j) [.int b.1] M1 QT
  refine V.aload_n dL_law_1365 rfl rfl rfl ?_
  refine V.aload_n dL_law_1366 rfl rfl rfl ?_
  refine V.iload_n dL_law_1367 rfl rfl rfl ?_
  refine V.iconst (v := nI 1) dL_law_1368 rfl rfl ?_
  refine V.iadd (v := nI (6 * j + 1)) dL_law_1369 (nI_add _ _) rfl ?_
  refine V.sald (X := (L, xs)) (v := xs (6 * j + 1)) rfl dL_law_1370 (vp_in_nI (by omega) (by omega)) (by rw [nI_clamp (by omega)]) rfl ?_
  refine V.aload_n dL_law_1371 rfl rfl rfl ?_
  refine V.iload_n dL_law_1372 rfl rfl rfl ?_
  refine V.iconst (v := nI 2) dL_law_1373 rfl rfl ?_
  refine V.iadd (v := nI (6 * j + 2)) dL_law_1374 (nI_add _ _) rfl ?_
  refine V.sald (X := (L, xs)) (v := xs (6 * j + 2)) rfl dL_law_1375 (vp_in_nI (by omega) (by omega)) (by rw [nI_clamp (by omega)]) rfl ?_
  refine V.aload_n dL_law_1376 rfl rfl rfl ?_
  refine V.iload_n dL_law_1377 rfl rfl rfl ?_
  refine V.iconst (v := nI 3) dL_law_1378 rfl rfl ?_
  refine V.iadd (v := nI (6 * j + 3)) dL_law_1379 (nI_add _ _) rfl ?_
  refine V.sald (X := (L, xs)) (v := xs (6 * j + 3)) rfl dL_law_1380 (vp_in_nI (by omega) (by omega)) (by rw [nI_clamp (by omega)]) rfl ?_
  refine V.aload_n dL_law_1381 rfl rfl rfl ?_
  refine V.iload_n dL_law_1382 rfl rfl rfl ?_
  refine V.iconst (v := nI 4) dL_law_1383 rfl rfl ?_
  refine V.iadd (v := nI (6 * j + 4)) dL_law_1384 (nI_add _ _) rfl ?_
  refine V.sald (X := (L, xs)) (v := xs (6 * j + 4)) rfl dL_law_1385 (vp_in_nI (by omega) (by omega)) (by rw [nI_clamp (by omega)]) rfl ?_
  refine V.aload_n dL_law_1386 rfl rfl rfl ?_
  refine V.iload_n dL_law_1387 rfl rfl rfl ?_
  refine V.iconst (v := nI 5) dL_law_1388 rfl rfl ?_
  refine V.iadd (v := nI (6 * j + 5)) dL_law_1389 (nI_add _ _) rfl ?_
  refine V.sald (X := (L, xs)) (v := xs (6 * j + 5)) rfl dL_law_1390 (vp_in_nI (by omega) (by omega)) (by rw [nI_clamp (by omega)]) rfl ?_
  refine V.callv (md' := m_X9_copy) (As := [.int (xs (6 * j + 1)), .int (xs (6 * j + 2)), .int (xs (6 * j + 3)), .int (xs (6 * j + 4)), .int (xs (6 * j + 5))]) (rest := [.int b.1]) dL_law_1391 ml_L_173 mo_X9_copy ⟨Nat.le_of_ble_eq_true rfl, Nat.le_of_ble_eq_true rfl⟩ rfl ⟨_, _, rfl⟩ (Nat.le_of_ble_eq_true rfl) rfl rfl (Nat.le_of_ble_eq_true rfl) (hr M1 z2) (fun rv M2 z => ?_)
  obtain ⟨y1, y2⟩ := z
  rw [y1, y2]
  show V (m_L_law L xs) 1394 (LL j) [.int b.1, .int b.1] (ov b.2 M1) QT
  exact V.icmp_eq (tgt := 1530) dL_law_1394 rfl rfl (fun _ => K _ (RQ_ov z3)) (fun z => absurd rfl z)
theorem c_law_39 {L : Nat} {xs : Nat → Int32} {j : Nat} (hL : L ≤ 3072) (hj : 6 * j + 6 ≤ L) {M : Mem} (hR : RQ (9 * j) M M) (K : ∀ M', RQ (9 * j + 9) M' M' → V (m_L_law L xs) 1530 (LL j) [] M' QT) : V (m_L_law L xs) 1399 (LL j) [] M QT := by
  obtain ⟨b, hc, hr⟩ := o_load (B := 9 * j) (by omega) hR (xs (6 * j + 1))
  refine V.aload_n dL_law_1399 rfl rfl rfl ?_
  refine V.aload_n dL_law_1400 rfl rfl rfl ?_
  refine V.iload_n dL_law_1401 rfl rfl rfl ?_
  refine V.iconst (v := nI 1) dL_law_1402 rfl rfl ?_
  refine V.iadd (v := nI (6 * j + 1)) dL_law_1403 (nI_add _ _) rfl ?_
  refine V.sald (X := (L, xs)) (v := xs (6 * j + 1)) rfl dL_law_1404 (vp_in_nI (by omega) (by omega)) (by rw [nI_clamp (by omega)]) rfl ?_
  refine V.callv (md' := m_X8_load) (As := [.int (xs (6 * j + 1))]) (rest := []) dL_law_1405 ml_L_174 mo_X8_load ⟨Nat.le_of_ble_eq_true rfl, Nat.le_of_ble_eq_true rfl⟩ rfl ⟨_, _, rfl⟩ (Nat.le_of_ble_eq_true rfl) rfl rfl (Nat.le_of_ble_eq_true rfl) hc (fun rv M1 z => ?_)
  obtain ⟨z1, z2, z3⟩ := z
  rw [z1]
  show V (m_L_law L xs) 1408 (LL j) [.int b.1] M1 QT
  refine V.aload_n dL_law_1408 rfl rfl rfl ?_
  refine V.aload_n dL_law_1409 rfl rfl rfl ?_
  refine V.iload_n dL_law_1410 rfl rfl rfl ?_
  refine V.iconst (v := nI 1) dL_law_1411 rfl rfl ?_
  refine V.iadd (v := nI (6 * j + 1)) dL_law_1412 (nI_add _ _) rfl ?_
  refine V.sald (X := (L, xs)) (v := xs (6 * j + 1)) rfl dL_law_1413 (vp_in_nI (by omega) (by omega)) (by rw [nI_clamp (by omega)]) rfl ?_
  refine V.callv (md' := m_X9_load) (As := [.int (xs (6 * j + 1))]) (rest := [.int b.1]) dL_law_1414 ml_L_177 mo_X9_load ⟨Nat.le_of_ble_eq_true rfl, Nat.le_of_ble_eq_true rfl⟩ rfl ⟨_, _, rfl⟩ (Nat.le_of_ble_eq_true rfl) rfl rfl (Nat.le_of_ble_eq_true rfl) (hr M1 z2) (fun rv M2 z => ?_)
  obtain ⟨y1, y2⟩ := z
  rw [y1, y2]
  show V (m_L_law L xs) 1417 (LL j) [.int b.1, .int b.1] (ov b.2 M1) QT
  exact V.icmp_eq (tgt := 1530) dL_law_1417 rfl rfl (fun _ => K _ (RQ_ov z3)) (fun z => absurd rfl z)
theorem c_law_40 {L : Nat} {xs : Nat → Int32} {j : Nat} (hL : L ≤ 3072) (hj : 6 * j + 6 ≤ L) {M : Mem} (hR : RQ (9 * j) M M) (K : ∀ M', RQ (9 * j + 9) M' M' → V (m_L_law L xs) 1530 (LL j) [] M' QT) : V (m_L_law L xs) 1422 (LL j) [] M QT := by
  obtain ⟨b, hc, hr⟩ := o_judge (B := 9 * j) (by omega) hR (xs (6 * j + 1))
  refine V.aload_n dL_law_1422 rfl rfl rfl ?_
  refine V.aload_n dL_law_1423 rfl rfl rfl ?_
  refine V.iload_n dL_law_1424 rfl rfl rfl ?_
  refine V.iconst (v := nI 1) dL_law_1425 rfl rfl ?_
  refine V.iadd (v := nI (6 * j + 1)) dL_law_1426 (nI_add _ _) rfl ?_
  refine V.sald (X := (L, xs)) (v := xs (6 * j + 1)) rfl dL_law_1427 (vp_in_nI (by omega) (by omega)) (by rw [nI_clamp (by omega)]) rfl ?_
  refine V.callv (md' := m_X8_judge) (As := [.int (xs (6 * j + 1))]) (rest := []) dL_law_1428 ml_L_178 mo_X8_judge ⟨Nat.le_of_ble_eq_true rfl, Nat.le_of_ble_eq_true rfl⟩ rfl ⟨_, _, rfl⟩ (Nat.le_of_ble_eq_true rfl) rfl rfl (Nat.le_of_ble_eq_true rfl) hc (fun rv M1 z => ?_)
  obtain ⟨z1, z2, z3⟩ := z
  rw [z1]
  show V (m_L_law L xs) 1431 (LL j) [.int b.1] M1 QT
  refine V.aload_n dL_law_1431 rfl rfl rfl ?_
  refine V.aload_n dL_law_1432 rfl rfl rfl ?_
  refine V.iload_n dL_law_1433 rfl rfl rfl ?_
  refine V.iconst (v := nI 1) dL_law_1434 rfl rfl ?_
  refine V.iadd (v := nI (6 * j + 1)) dL_law_1435 (nI_add _ _) rfl ?_
  refine V.sald (X := (L, xs)) (v := xs (6 * j + 1)) rfl dL_law_1436 (vp_in_nI (by omega) (by omega)) (by rw [nI_clamp (by omega)]) rfl ?_
  refine V.callv (md' := m_X9_judge) (As := [.int (xs (6 * j + 1))]) (rest := [.int b.1]) dL_law_1437 ml_L_181 mo_X9_judge ⟨Nat.le_of_ble_eq_true rfl, Nat.le_of_ble_eq_true rfl⟩ rfl ⟨_, _, rfl⟩ (Nat.le_of_ble_eq_true rfl) rfl rfl (Nat.le_of_ble_eq_true rfl) (hr M1 z2) (fun rv M2 z => ?_)
  obtain ⟨y1, y2⟩ := z
  rw [y1, y2]
  show V (m_L_law L xs) 1440 (LL j) [.int b.1, .int b.1] (ov b.2 M1) QT
  exact V.icmp_eq (tgt := 1530) dL_law_1440 rfl rfl (fun _ => K _ (RQ_ov z3)) (fun z => absurd rfl z)
theorem c_law_41 {L : Nat} {xs : Nat → Int32} {j : Nat} (hL : L ≤ 3072) (hj : 6 * j + 6 ≤ L) {M : Mem} (hR : RQ (9 * j) M M) (K : ∀ M', RQ (9 * j + 9) M' M' → V (m_L_law L xs) 1530 (LL j) [] M' QT) : V (m_L_law L xs) 1445 (LL j) [] M QT := by
  obtain ⟨b, hc, hr⟩ := o_image (B := 9 * j) (by omega) hR
  refine V.aload_n dL_law_1445 rfl rfl rfl ?_
  refine V.callv (md' := m_X8_image) (As := []) (rest := []) dL_law_1446 ml_L_182 mo_X8_image ⟨Nat.le_of_ble_eq_true rfl, Nat.le_of_ble_eq_true rfl⟩ rfl ⟨_, _, rfl⟩ (Nat.le_of_ble_eq_true rfl) rfl rfl (Nat.le_of_ble_eq_true rfl) hc (fun rv M1 z => ?_)
  obtain ⟨z1, z2, z3⟩ := z
  rw [z1]
  show V (m_L_law L xs) 1449 (LL j) [.int b.1] M1 QT
  refine V.aload_n dL_law_1449 rfl rfl rfl ?_
  refine V.callv (md' := m_X9_image) (As := []) (rest := [.int b.1]) dL_law_1450 ml_L_185 mo_X9_image ⟨Nat.le_of_ble_eq_true rfl, Nat.le_of_ble_eq_true rfl⟩ rfl ⟨_, _, rfl⟩ (Nat.le_of_ble_eq_true rfl) rfl rfl (Nat.le_of_ble_eq_true rfl) (hr M1 z2) (fun rv M2 z => ?_)
  obtain ⟨y1, y2⟩ := z
  rw [y1, y2]
  show V (m_L_law L xs) 1453 (LL j) [.int b.1, .int b.1] (ov b.2 M1) QT
  exact V.icmp_eq (tgt := 1530) dL_law_1453 rfl rfl (fun _ => K _ (RQ_ov z3)) (fun z => absurd rfl z)
theorem c_law_42 {L : Nat} {xs : Nat → Int32} {j : Nat} (hL : L ≤ 3072) (hj : 6 * j + 6 ≤ L) {M : Mem} (hR : RQ (9 * j) M M) (K : ∀ M', RQ (9 * j + 9) M' M' → V (m_L_law L xs) 1530 (LL j) [] M' QT) : V (m_L_law L xs) 1458 (LL j) [] M QT := by
  obtain ⟨b, hc, hr⟩ := o_undo (B := 9 * j) (by omega) hR
  refine V.aload_n dL_law_1458 rfl rfl rfl ?_
  refine V.callv (md' := m_X8_undo) (As := []) (rest := []) dL_law_1459 ml_L_186 mo_X8_undo ⟨Nat.le_of_ble_eq_true rfl, Nat.le_of_ble_eq_true rfl⟩ rfl ⟨_, _, rfl⟩ (Nat.le_of_ble_eq_true rfl) rfl rfl (Nat.le_of_ble_eq_true rfl) hc (fun rv M1 z => ?_)
  obtain ⟨z1, z2, z3⟩ := z
  rw [z1]
  show V (m_L_law L xs) 1462 (LL j) [.int b.1] M1 QT
  refine V.aload_n dL_law_1462 rfl rfl rfl ?_
  refine V.callv (md' := m_X9_undo) (As := []) (rest := [.int b.1]) dL_law_1463 ml_L_189 mo_X9_undo ⟨Nat.le_of_ble_eq_true rfl, Nat.le_of_ble_eq_true rfl⟩ rfl ⟨_, _, rfl⟩ (Nat.le_of_ble_eq_true rfl) rfl rfl (Nat.le_of_ble_eq_true rfl) (hr M1 z2) (fun rv M2 z => ?_)
  obtain ⟨y1, y2⟩ := z
  rw [y1, y2]
  show V (m_L_law L xs) 1466 (LL j) [.int b.1, .int b.1] (ov b.2 M1) QT
  exact V.icmp_eq (tgt := 1530) dL_law_1466 rfl rfl (fun _ => K _ (RQ_ov z3)) (fun z => absurd rfl z)
theorem c_law_43 {L : Nat} {xs : Nat → Int32} {j : Nat} (hL : L ≤ 3072) (hj : 6 * j + 6 ≤ L) {M : Mem} (hR : RQ (9 * j) M M) (K : ∀ M', RQ (9 * j + 9) M' M' → V (m_L_law L xs) 1530 (LL j) [] M' QT) : V (m_L_law L xs) 1471 (LL j) [] M QT := by
  obtain ⟨b, hc, hr⟩ := o_tear (B := 9 * j) (by omega) hR
  refine V.aload_n dL_law_1471 rfl rfl rfl ?_
  refine V.callv (md' := m_X8_tear) (As := []) (rest := []) dL_law_1472 ml_L_190 mo_X8_tear ⟨Nat.le_of_ble_eq_true rfl, Nat.le_of_ble_eq_true rfl⟩ rfl ⟨_, _, rfl⟩ (Nat.le_of_ble_eq_true rfl) rfl rfl (Nat.le_of_ble_eq_true rfl) hc (fun rv M1 z => ?_)
  obtain ⟨z1, z2, z3⟩ := z
  rw [z1]
  show V (m_L_law L xs) 1475 (LL j) [.int b.1] M1 QT
  refine V.aload_n dL_law_1475 rfl rfl rfl ?_
  refine V.callv (md' := m_X9_tear) (As := []) (rest := [.int b.1]) dL_law_1476 ml_L_193 mo_X9_tear ⟨Nat.le_of_ble_eq_true rfl, Nat.le_of_ble_eq_true rfl⟩ rfl ⟨_, _, rfl⟩ (Nat.le_of_ble_eq_true rfl) rfl rfl (Nat.le_of_ble_eq_true rfl) (hr M1 z2) (fun rv M2 z => ?_)
  obtain ⟨y1, y2⟩ := z
  rw [y1, y2]
  show V (m_L_law L xs) 1479 (LL j) [.int b.1, .int b.1] (ov b.2 M1) QT
  exact V.icmp_eq (tgt := 1530) dL_law_1479 rfl rfl (fun _ => K _ (RQ_ov z3)) (fun z => absurd rfl z)
theorem c_law_44 {L : Nat} {xs : Nat → Int32} {j : Nat} (hL : L ≤ 3072) (hj : 6 * j + 6 ≤ L) {M : Mem} (hR : RQ (9 * j) M M) (K : ∀ M', RQ (9 * j + 9) M' M' → V (m_L_law L xs) 1530 (LL j) [] M' QT) : V (m_L_law L xs) 1484 (LL j) [] M QT := by
  obtain ⟨b, hc, hr⟩ := o_count (B := 9 * j) (by omega) hR (xs (6 * j + 1))
  refine V.aload_n dL_law_1484 rfl rfl rfl ?_
  refine V.aload_n dL_law_1485 rfl rfl rfl ?_
  refine V.iload_n dL_law_1486 rfl rfl rfl ?_
  refine V.iconst (v := nI 1) dL_law_1487 rfl rfl ?_
  refine V.iadd (v := nI (6 * j + 1)) dL_law_1488 (nI_add _ _) rfl ?_
  refine V.sald (X := (L, xs)) (v := xs (6 * j + 1)) rfl dL_law_1489 (vp_in_nI (by omega) (by omega)) (by rw [nI_clamp (by omega)]) rfl ?_
  refine V.callv (md' := m_X8_count) (As := [.int (xs (6 * j + 1))]) (rest := []) dL_law_1490 ml_L_194 mo_X8_count ⟨Nat.le_of_ble_eq_true rfl, Nat.le_of_ble_eq_true rfl⟩ rfl ⟨_, _, rfl⟩ (Nat.le_of_ble_eq_true rfl) rfl rfl (Nat.le_of_ble_eq_true rfl) hc (fun rv M1 z => ?_)
  obtain ⟨z1, z2, z3⟩ := z
  rw [z1]
  show V (m_L_law L xs) 1493 (LL j) [.int b.1] M1 QT
  refine V.aload_n dL_law_1493 rfl rfl rfl ?_
  refine V.aload_n dL_law_1494 rfl rfl rfl ?_
  refine V.iload_n dL_law_1495 rfl rfl rfl ?_
  refine V.iconst (v := nI 1) dL_law_1496 rfl rfl ?_
  refine V.iadd (v := nI (6 * j + 1)) dL_law_1497 (nI_add _ _) rfl ?_
  refine V.sald (X := (L, xs)) (v := xs (6 * j + 1)) rfl dL_law_1498 (vp_in_nI (by omega) (by omega)) (by rw [nI_clamp (by omega)]) rfl ?_
  refine V.callv (md' := m_X9_count) (As := [.int (xs (6 * j + 1))]) (rest := [.int b.1]) dL_law_1499 ml_L_197 mo_X9_count ⟨Nat.le_of_ble_eq_true rfl, Nat.le_of_ble_eq_true rfl⟩ rfl ⟨_, _, rfl⟩ (Nat.le_of_ble_eq_true rfl) rfl rfl (Nat.le_of_ble_eq_true rfl) (hr M1 z2) (fun rv M2 z => ?_)
  obtain ⟨y1, y2⟩ := z
  rw [y1, y2]
  show V (m_L_law L xs) 1502 (LL j) [.int b.1, .int b.1] (ov b.2 M1) QT
  exact V.icmp_eq (tgt := 1530) dL_law_1502 rfl rfl (fun _ => K _ (RQ_ov z3)) (fun z => absurd rfl z)
theorem c_law_45 {L : Nat} {xs : Nat → Int32} {j : Nat} (hL : L ≤ 3072) (hj : 6 * j + 6 ≤ L) {M : Mem} (hR : RQ (9 * j) M M) (K : ∀ M', RQ (9 * j + 9) M' M' → V (m_L_law L xs) 1530 (LL j) [] M' QT) : V (m_L_law L xs) 1507 (LL j) [] M QT := by
  obtain ⟨b, hc, hr⟩ := o_status (B := 9 * j) (by omega) hR (xs (6 * j + 1))
  refine V.aload_n dL_law_1507 rfl rfl rfl ?_
  refine V.aload_n dL_law_1508 rfl rfl rfl ?_
  refine V.iload_n dL_law_1509 rfl rfl rfl ?_
  refine V.iconst (v := nI 1) dL_law_1510 rfl rfl ?_
  refine V.iadd (v := nI (6 * j + 1)) dL_law_1511 (nI_add _ _) rfl ?_
  refine V.sald (X := (L, xs)) (v := xs (6 * j + 1)) rfl dL_law_1512 (vp_in_nI (by omega) (by omega)) (by rw [nI_clamp (by omega)]) rfl ?_
  refine V.callv (md' := m_X8_status) (As := [.int (xs (6 * j + 1))]) (rest := []) dL_law_1513 ml_L_198 mo_X8_status ⟨Nat.le_of_ble_eq_true rfl, Nat.le_of_ble_eq_true rfl⟩ rfl ⟨_, _, rfl⟩ (Nat.le_of_ble_eq_true rfl) rfl rfl (Nat.le_of_ble_eq_true rfl) hc (fun rv M1 z => ?_)
  obtain ⟨z1, z2, z3⟩ := z
  rw [z1]
  show V (m_L_law L xs) 1516 (LL j) [.int b.1] M1 QT
  refine V.aload_n dL_law_1516 rfl rfl rfl ?_
  refine V.aload_n dL_law_1517 rfl rfl rfl ?_
  refine V.iload_n dL_law_1518 rfl rfl rfl ?_
  refine V.iconst (v := nI 1) dL_law_1519 rfl rfl ?_
  refine V.iadd (v := nI (6 * j + 1)) dL_law_1520 (nI_add _ _) rfl ?_
  refine V.sald (X := (L, xs)) (v := xs (6 * j + 1)) rfl dL_law_1521 (vp_in_nI (by omega) (by omega)) (by rw [nI_clamp (by omega)]) rfl ?_
  refine V.callv (md' := m_X9_status) (As := [.int (xs (6 * j + 1))]) (rest := [.int b.1]) dL_law_1522 ml_L_201 mo_X9_status ⟨Nat.le_of_ble_eq_true rfl, Nat.le_of_ble_eq_true rfl⟩ rfl ⟨_, _, rfl⟩ (Nat.le_of_ble_eq_true rfl) rfl rfl (Nat.le_of_ble_eq_true rfl) (hr M1 z2) (fun rv M2 z => ?_)
  obtain ⟨y1, y2⟩ := z
  rw [y1, y2]
  show V (m_L_law L xs) 1525 (LL j) [.int b.1, .int b.1] (ov b.2 M1) QT
  exact V.icmp_eq (tgt := 1530) dL_law_1525 rfl rfl (fun _ => K _ (RQ_ov z3)) (fun z => absurd rfl z)
