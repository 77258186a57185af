/-! ===== result, state, seal, remove, call, get, put ===== -/
theorem i_vc_result {k : Nat} {u : SX} {v : SY} (I : i_Rel k u v) (hk : k + 6 ≤ 3072) : wpX_result (fun r => wpY_result (fun r' => r' = r ∧ i_Rel (k + 6) u v) v) u := by
  have J := i_up I
  obtain ⟨n, b, m, deep, res, thr, thn, CL, cStr, cOp, cA, cB, OK, oKin, oOpen, pVal, aOut, aVar, FC, FA, FP, FH, FT, fSelf, stk, TA, TH, xFc, xFs, xPc, xKo, xPk, tw, te, tc, xSet, S, XH, xHeld, xArg, yCo, yAr, M, yPair, ySeen, ySet, yStay, yArg, yHan, yKept, yGiven, rfl, rfl, R, hm⟩ := I
  exact ⟨rfl, J⟩
theorem i_vc_state {k : Nat} {u : SX} {v : SY} (I : i_Rel k u v) (hk : k + 6 ≤ 3072) (v1 : Int32) : wpX_state (fun r => wpY_state (fun r' => r' = r ∧ i_Rel (k + 6) u v) v v1) u v1 := by
  have J := i_up I
  obtain ⟨n, b, m, deep, res, thr, thn, CL, cStr, cOp, cA, cB, OK, oKin, oOpen, pVal, aOut, aVar, FC, FA, FP, FH, FT, fSelf, stk, TA, TH, xFc, xFs, xPc, xKo, xPk, tw, te, tc, xSet, S, XH, xHeld, xArg, yCo, yAr, M, yPair, ySeen, ySet, yStay, yArg, yHan, yKept, yGiven, rfl, rfl, R, hm⟩ := I
  have hS2 : ∀ q, q < 24 → S q ≤ 2 := fun q hq => (R.2.2.2.2.2.1.2 q hq).1
  have hother : (v1 < 0 ∨ 3 < v1) → ¬ v1 = 0 ∧ ¬ v1 = 1 ∧ ¬ v1 = 2 ∧ ¬ v1 = 3 := by
    intro h
    refine ⟨?_, ?_, ?_, ?_⟩ <;> intro e <;> rw [e] at h <;> exact absurd h (by decide)
  unfold wpX_state wpY_state
  by_cases h0 : v1 < 0
  · obtain ⟨e0, e1, e2, e3⟩ := hother (Or.inl h0)
    exact br_t h0 (br_f e0 (br_f e1 (br_f e2 (br_f e3 ⟨rfl, J⟩))))
  by_cases h3 : 3 < v1
  · obtain ⟨e0, e1, e2, e3⟩ := hother (Or.inr h3)
    exact br_f h0 (br_t h3 (br_f e0 (br_f e1 (br_f e2 (br_f e3 ⟨rfl, J⟩)))))
  refine br_f h0 (br_f h3 ?_)
  by_cases e0 : v1 = 0
  · exact br_t e0 (br_t e0 ⟨rfl, J⟩)
  by_cases e1 : v1 = 1
  · refine br_f e0 (br_t e1 ?_)
    refine ob_actsX hS2 _ ?_
    refine br_f e0 (br_t e1 ?_)
    exact ob_actsY _ ⟨rfl, J⟩
  by_cases e2 : v1 = 2
  · exact br_f e0 (br_f e1 (br_t e2 (br_f e0 (br_f e1 (br_t e2 ⟨rfl, J⟩)))))
  by_cases e3 : v1 = 3
  · exact br_f e0 (br_f e1 (br_f e2 (br_t e3 (br_f e0 (br_f e1 (br_f e2 (br_t e3 ⟨rfl, J⟩)))))))
  · exact br_f e0 (br_f e1 (br_f e2 (br_f e3 trivial)))
theorem i_vc_remove {k : Nat} {u : SX} {v : SY} (I : i_Rel k u v) (hk : k + 6 ≤ 3072) (v1 : Int32) (v2 : Int32) : wpX_remove (fun r u' => wpY_remove (fun r' v' => r' = r ∧ i_Rel (k + 6) u' v') v v1 v2) u v1 v2 := by
  have J := i_up I
  obtain ⟨n, b, m, deep, res, thr, thn, CL, cStr, cOp, cA, cB, OK, oKin, oOpen, pVal, aOut, aVar, FC, FA, FP, FH, FT, fSelf, stk, TA, TH, xFc, xFs, xPc, xKo, xPk, tw, te, tc, xSet, S, XH, xHeld, xArg, yCo, yAr, M, yPair, ySeen, ySet, yStay, yArg, yHan, yKept, yGiven, rfl, rfl, R, hm⟩ := I
  unfold wpX_remove wpY_remove
  rcases ob_isP (n := n) (d := 0) (b := b) (m := m) (deep := deep) (res := res) (thr := thr) (thn := thn) (CL := CL) (cStr := cStr) (cOp := cOp) (cA := cA) (cB := cB) (OK := OK) (oKin := oKin) (oOpen := oOpen) (pVal := pVal) (aOut := aOut) (aVar := aVar) (FC := FC) (FA := FA) (FP := FP) (FH := FH) (FT := FT) (fSelf := fSelf) (stk := stk) (TA := TA) (TH := TH) (xFc := xFc) (xFs := xFs) (xPc := xPc) (xKo := xKo) (xPk := xPk) (tw := tw) (te := te) (tc := tc) (xSet := xSet) (S := S) (XH := XH) (xHeld := xHeld) (xArg := xArg) (yCo := yCo) (yAr := yAr) (M := M) (yPair := yPair) (ySeen := ySeen) (ySet := ySet) (yStay := yStay) (yArg := yArg) (yHan := yHan) (yKept := yKept) (yGiven := yGiven) R.2.1 v1 v2 with ⟨o, j, ho, hj, rfl, rfl, hX, hY⟩ | ⟨hX, hY⟩
  · obtain ⟨r, M', xPc', xKo', xPk', R2, hr, hX2, hY2⟩ := ob_lose (deep := deep) (cStr := cStr) (oOpen := oOpen) (te := te) (xArg := xArg) (ySeen := ySeen) (yArg := yArg) (yGiven := yGiven) R (by omega) ho hj
    have K : i_Rel (k + 6) _ _ := ob_E_mk (deep := deep) (cStr := cStr) (oOpen := oOpen) (te := te) (xArg := xArg) (ySeen := ySeen) (yArg := yArg) (yGiven := yGiven) R2 (by omega : m ≤ 300 * (k + 6))
    refine hX _ (br_f (by decide) (hX2 _ ?_))
    rcases hr with rfl | rfl
    · exact br_t rfl (hY _ (br_f (by decide) (hY2 _ ⟨rfl, K⟩)))
    · exact br_f (by decide) (hY _ (br_f (by decide) (hY2 _ ⟨rfl, K⟩)))
  · exact hX _ (br_t rfl (hY _ (br_t rfl ⟨rfl, J⟩)))
theorem i_vc_seal {k : Nat} {u : SX} {v : SY} (I : i_Rel k u v) (hk : k + 6 ≤ 3072) (v1 : Int32) (v2 : Int32) : wpX_seal (fun r u' => wpY_seal (fun r' v' => r' = r ∧ i_Rel (k + 6) u' v') v v1 v2) u v1 v2 := by
  have J := i_up I
  obtain ⟨n, b, m, deep, res, thr, thn, CL, cStr, cOp, cA, cB, OK, oKin, oOpen, pVal, aOut, aVar, FC, FA, FP, FH, FT, fSelf, stk, TA, TH, xFc, xFs, xPc, xKo, xPk, tw, te, tc, xSet, S, XH, xHeld, xArg, yCo, yAr, M, yPair, ySeen, ySet, yStay, yArg, yHan, yKept, yGiven, rfl, rfl, R, hm⟩ := I
  have h3 := R.2.1.1
  unfold wpX_seal
  rcases ob_isO R.2.1 v1 with ⟨o, ho, rfl⟩ | h
  · rcases pk_ix v2 (n := 3) (by decide) with h | h | ⟨q, hq, rfl⟩
    · refine br_f (nI_pos (by omega)) (br_f (nI_ge ho (by omega)) (br_t h ?_))
      unfold wpY_seal
      dsimp only
      rw [ob_sub1 (a := n) (by omega)]
      exact ob_inT (b := 0) (by omega) (by omega) (by omega) _ (br_f (by decide) (ob_inF (Or.inl h) _ (br_t rfl ⟨rfl, J⟩)))
    · have h0 : ¬ v2 < 0 := fun z => absurd (Int32.lt_of_le_of_lt h z) (by decide)
      have h2 : 2 < v2 := Int32.lt_of_lt_of_le (by decide) h
      refine br_f (nI_pos (by omega)) (br_f (nI_ge ho (by omega)) (br_f h0 (br_f (Int32.not_le.mpr h2) ?_)))
      unfold wpY_seal
      dsimp only
      rw [ob_sub1 (a := n) (by omega)]
      exact ob_inT (b := 0) (by omega) (by omega) (by omega) _ (br_f (by decide) (ob_inF (Or.inr h2) _ (br_t rfl ⟨rfl, J⟩)))
    · have R2 := ob_sealR (o := o) (onW := decide (q = 2)) (onC := decide (q ≠ 0)) R
      have K : i_Rel (k + 6) _ _ := ob_E_mk (deep := deep) (cStr := cStr) (oOpen := (upd oOpen o 0)) (te := te) (xArg := xArg) (ySeen := ySeen) (yArg := yArg) (yGiven := yGiven) R2 (by omega : m ≤ 300 * (k + 6))
      refine br_f (nI_pos (by omega)) (br_f (nI_ge ho (by omega)) (br_f (nI_pos (by omega)) (br_t (nI_le (b := 2) (by omega) (by decide)) ?_)))
      exact ob_sealX (by omega) (by omega) _ (ob_sealY ho h3.2 (by omega) _ ⟨rfl, K⟩)
  · have hY : ∀ post : Int32 → SY → Prop, post 0 (nI n, nI m, yGiven, nI 0, deep, nI b, thr, thn, res, cStr, (fun zz => nI (CL zz)), cOp, cA, cB, (fun zz => nI (OK zz)), oKin, yCo, yAr, oOpen, (fun zz => nI (M zz)), (fun zz => ob_yf (tw zz) (te zz) (tc zz)), yPair, ySeen, pVal, ySet, (fun zz => ob_th (S zz)), yStay, aOut, aVar, yArg, (fun zz => nI (FC zz)), (fun zz => nI (FA zz)), (fun zz => nI (FP zz)), (fun zz => nI (FH zz)), yHan, (fun zz => nI (FT zz)), (fun zz => nI (TA zz)), (fun zz => nI (TH zz)), fSelf, yKept, stk) → wpY_seal post (nI n, nI m, yGiven, nI 0, deep, nI b, thr, thn, res, cStr, (fun zz => nI (CL zz)), cOp, cA, cB, (fun zz => nI (OK zz)), oKin, yCo, yAr, oOpen, (fun zz => nI (M zz)), (fun zz => ob_yf (tw zz) (te zz) (tc zz)), yPair, ySeen, pVal, ySet, (fun zz => ob_th (S zz)), yStay, aOut, aVar, yArg, (fun zz => nI (FC zz)), (fun zz => nI (FA zz)), (fun zz => nI (FP zz)), (fun zz => nI (FH zz)), yHan, (fun zz => nI (FT zz)), (fun zz => nI (TA zz)), (fun zz => nI (TH zz)), fSelf, yKept, stk) v1 v2 := by
      intro post hp
      unfold wpY_seal
      exact ob_inF (h.imp id (ob_nle1 (by omega) (by omega))) _ (br_t rfl hp)
    by_cases h0 : v1 < 0
    · exact br_t h0 (hY _ ⟨rfl, J⟩)
    · exact br_f h0 (br_t (h.resolve_left h0) (hY _ ⟨rfl, J⟩))
theorem i_vc_get {k : Nat} {u : SX} {v : SY} (I : i_Rel k u v) (hk : k + 6 ≤ 3072) (v1 : Int32) (v2 : Int32) : wpX_get (fun r u' => wpY_get (fun r' v' => r' = r ∧ i_Rel (k + 6) u' v') v v1 v2) u v1 v2 := by
  have J := i_up I
  obtain ⟨n, b, m, deep, res, thr, thn, CL, cStr, cOp, cA, cB, OK, oKin, oOpen, pVal, aOut, aVar, FC, FA, FP, FH, FT, fSelf, stk, TA, TH, xFc, xFs, xPc, xKo, xPk, tw, te, tc, xSet, S, XH, xHeld, xArg, yCo, yAr, M, yPair, ySeen, ySet, yStay, yArg, yHan, yKept, yGiven, rfl, rfl, R, hm⟩ := I
  have h3 := R.2.1.1
  unfold wpX_get wpY_get
  rcases ob_isP (n := n) (d := 0) (b := b) (m := m) (deep := deep) (res := res) (thr := thr) (thn := thn) (CL := CL) (cStr := cStr) (cOp := cOp) (cA := cA) (cB := cB) (OK := OK) (oKin := oKin) (oOpen := oOpen) (pVal := pVal) (aOut := aOut) (aVar := aVar) (FC := FC) (FA := FA) (FP := FP) (FH := FH) (FT := FT) (fSelf := fSelf) (stk := stk) (TA := TA) (TH := TH) (xFc := xFc) (xFs := xFs) (xPc := xPc) (xKo := xKo) (xPk := xPk) (tw := tw) (te := te) (tc := tc) (xSet := xSet) (S := S) (XH := XH) (xHeld := xHeld) (xArg := xArg) (yCo := yCo) (yAr := yAr) (M := M) (yPair := yPair) (ySeen := ySeen) (ySet := ySet) (yStay := yStay) (yArg := yArg) (yHan := yHan) (yKept := yKept) (yGiven := yGiven) R.2.1 v1 v2 with ⟨o, j, ho, hj, rfl, rfl, hX, hY⟩ | ⟨hX, hY⟩
  · obtain ⟨u1, v1', hS, hX2, hY2⟩ := ob_fetch (deep := 0) (cStr := cStr) (oOpen := oOpen) (te := te) (xArg := xArg) (ySeen := ySeen) (yArg := yArg) (yGiven := yGiven) (w := 0) (ob_startR R) rfl (ob_V_o ho) hj (Nat.le_refl m) (by omega) (by show 4 * 0 + 0 ≤ 0; omega)
    obtain ⟨r, u2, v2', hE, hX3, hY3⟩ := ob_runs (by omega) (by omega) hS
    have K : i_Rel (k + 6) u2 v2' := by
      obtain ⟨n, b, m, deep, res, thr, thn, CL, cStr, cOp, cA, cB, OK, oKin, oOpen, pVal, aOut, aVar, FC, FA, FP, FH, FT, fSelf, stk, TA, TH, xFc, xFs, xPc, xKo, xPk, tw, te, tc, xSet, S, XH, xHeld, xArg, yCo, yAr, M, yPair, ySeen, ySet, yStay, yArg, yHan, yKept, yGiven, h1, h2, h3, h4⟩ := hE
      exact ⟨n, b, m, deep, res, thr, thn, CL, cStr, cOp, cA, cB, OK, oKin, oOpen, pVal, aOut, aVar, FC, FA, FP, FH, FT, fSelf, stk, TA, TH, xFc, xFs, xPc, xKo, xPk, tw, te, tc, xSet, S, XH, xHeld, xArg, yCo, yAr, M, yPair, ySeen, ySet, yStay, yArg, yHan, yKept, yGiven, h1, h2, h3, by omega⟩
    refine hX _ (br_f (by decide) ?_)
    unfold wpX_startRun
    dsimp only
    rw [ob_obj_toI o (by omega)]
    refine hX2 _ (hX3 _ ?_)
    refine hY _ (br_f (by decide) ?_)
    unfold wpY_begin
    dsimp only
    exact hY2 _ (hY3 _ ⟨rfl, K⟩)
  · exact hX _ (br_t rfl (hY _ (br_t rfl ⟨rfl, J⟩)))
