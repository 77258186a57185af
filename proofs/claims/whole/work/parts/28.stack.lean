/-! ===== the instructions 0 to 7 ===== -/
section
variable {n : Nat} {d : Nat} {b : Nat} {m : Nat} {deep : Int32} {res : Int64} {thr : Int32} {thn : Int64} {CL : Nat → Nat} {cStr : Nat → Int32} {cOp : Nat → Int32} {cA : Nat → Int32} {cB : Nat → Int32} {OK : Nat → Nat} {oKin : Nat → Int32} {oOpen : Nat → Int32} {pVal : Nat → Int64} {aOut : Nat → Int32} {aVar : Nat → Int64} {FC : Nat → Nat} {FA : Nat → Nat} {FP : Nat → Nat} {FH : Nat → Nat} {FT : Nat → Nat} {fSelf : Nat → Int64} {stk : Nat → Int64} {TA : Nat → Nat} {TH : Nat → Nat} {xFc : Nat → Int32} {xFs : Nat → Int32} {xPc : Nat → Int32} {xKo : Nat → Int32} {xPk : Nat → Int32} {tw : Nat → Bool} {te : Nat → Bool} {tc : Nat → Bool} {xSet : Nat → Int64} {S : Nat → Nat} {XH : Nat → Nat} {xHeld : Nat → Int64} {xArg : Nat → Int64} {yCo : Nat → Int32} {yAr : Nat → Int32} {M : Nat → Nat} {yPair : Nat → Int32} {ySeen : Nat → Int32} {ySet : Nat → Int64} {yStay : Nat → Int32} {yArg : Nat → Int64} {yHan : Nat → Int32} {yKept : Nat → Int64} {yGiven : Int32}
variable {e k j B w : Nat} {a bb : Int32}
theorem ob_op0 (R : ob_R n (e+1) b m res thr thn CL cOp cA cB OK oKin pVal aOut aVar FC FA FP FH FT fSelf stk TA TH xFc xFs xPc xKo xPk tw tc xSet S XH xHeld yCo yAr M yPair ySet yStay yHan yKept) (hm : m + 5 ≤ B) (hw : 4 * (e + 1) + ob_hs XH (e + 1) ≤ w) :
    ∃ u' v', ob_S b B (w + 4) u' v' ∧ (∀ post : SX → Prop, post u' → wpX_stackOp post (nI n, nI (e+1), nI b, deep, res, thr, thn, (fun zz => nI (CL zz)), cStr, cOp, cA, cB, (fun zz => nI (OK zz)), oKin, oOpen, xFc, xFs, xPc, xKo, xPk, (fun zz => ob_xa (tw zz) (te zz) (tc zz)), pVal, xSet, (fun zz => nI (S zz)), aOut, aVar, (fun zz => nI (FC zz)), (fun zz => nI (FP zz)), (fun zz => nI (FA zz)), (fun zz => nI (FH zz)), (fun zz => nI (XH zz)), (fun zz => nI (FT zz)), fSelf, xHeld, stk, (fun zz => nI (TA zz)), (fun zz => nI (TH zz)), xArg) 0 a bb) ∧ (∀ post : SY → Prop, post v' → wpY_act post (nI n, nI m, yGiven, nI (e+1), deep, nI b, thr, thn, res, cStr, (fun zz => nI (CL zz)), cOp, cA, cB, (fun zz => nI (OK zz)), oKin, yCo, yAr, oOpen, (fun zz => nI (M zz)), (fun zz => ob_yf (tw zz) (te zz) (tc zz)), yPair, ySeen, pVal, ySet, (fun zz => ob_th (S zz)), yStay, aOut, aVar, yArg, (fun zz => nI (FC zz)), (fun zz => nI (FA zz)), (fun zz => nI (FP zz)), (fun zz => nI (FH zz)), yHan, (fun zz => nI (FT zz)), (fun zz => nI (TA zz)), (fun zz => nI (TH zz)), fSelf, yKept, stk) 0 a bb) := by
  obtain ⟨res', thr', thn', FH', stk', R2, hXp, hYp⟩ := ob_push (deep := deep) (cStr := cStr) (oOpen := oOpen) (te := te) (xArg := xArg) (ySeen := ySeen) (yArg := yArg) (yGiven := yGiven) R (ob_V_i n a)
  refine ⟨_, _, ob_S_mk (deep := deep) (cStr := cStr) (oOpen := oOpen) (te := te) (xArg := xArg) (ySeen := ySeen) (yArg := yArg) (yGiven := yGiven) R2 (by omega : m ≤ B) (by omega), fun post hp => ?_, fun post hp => ?_⟩
  · unfold wpX_stackOp
    refine br_f (by decide) (br_f (by decide) (br_t rfl ?_))
    exact hXp _ hp
  · unfold wpY_act; refine nm_r (nI_pred e) (br_f (by decide) (br_f (by decide) (br_f (by decide) (br_f (by decide) (br_f (by decide) (br_f (by decide) (?_)))))))
    unfold wY_act_49; refine br_f (by decide) ?_; unfold wY_act_65; refine br_f (by decide) (br_f (by decide) (br_t rfl ?_))
    exact hYp _ hp
theorem ob_op1 (R : ob_R n (e+1) b m res thr thn CL cOp cA cB OK oKin pVal aOut aVar FC FA FP FH FT fSelf stk TA TH xFc xFs xPc xKo xPk tw tc xSet S XH xHeld yCo yAr M yPair ySet yStay yHan yKept) (hm : m + 5 ≤ B) (hw : 4 * (e + 1) + ob_hs XH (e + 1) ≤ w) (hj : j ≤ 5) :
    ∃ u' v', ob_S b B (w + 4) u' v' ∧ (∀ post : SX → Prop, post u' → wpX_stackOp post (nI n, nI (e+1), nI b, deep, res, thr, thn, (fun zz => nI (CL zz)), cStr, cOp, cA, cB, (fun zz => nI (OK zz)), oKin, oOpen, xFc, xFs, xPc, xKo, xPk, (fun zz => ob_xa (tw zz) (te zz) (tc zz)), pVal, xSet, (fun zz => nI (S zz)), aOut, aVar, (fun zz => nI (FC zz)), (fun zz => nI (FP zz)), (fun zz => nI (FA zz)), (fun zz => nI (FH zz)), (fun zz => nI (XH zz)), (fun zz => nI (FT zz)), fSelf, xHeld, stk, (fun zz => nI (TA zz)), (fun zz => nI (TH zz)), xArg) 1 (nI j) bb) ∧ (∀ post : SY → Prop, post v' → wpY_act post (nI n, nI m, yGiven, nI (e+1), deep, nI b, thr, thn, res, cStr, (fun zz => nI (CL zz)), cOp, cA, cB, (fun zz => nI (OK zz)), oKin, yCo, yAr, oOpen, (fun zz => nI (M zz)), (fun zz => ob_yf (tw zz) (te zz) (tc zz)), yPair, ySeen, pVal, ySet, (fun zz => ob_th (S zz)), yStay, aOut, aVar, yArg, (fun zz => nI (FC zz)), (fun zz => nI (FA zz)), (fun zz => nI (FP zz)), (fun zz => nI (FH zz)), yHan, (fun zz => nI (FT zz)), (fun zz => nI (TA zz)), (fun zz => nI (TH zz)), fSelf, yKept, stk) 1 (nI j) bb) := by
  have hv : ob_V n (8589934592 + (nI j).toInt64) := by
    rw [ob_spe_toI j (by omega)]
    exact ob_V_s n j hj
  obtain ⟨res', thr', thn', FH', stk', R2, hXp, hYp⟩ := ob_push (deep := deep) (cStr := cStr) (oOpen := oOpen) (te := te) (xArg := xArg) (ySeen := ySeen) (yArg := yArg) (yGiven := yGiven) R hv
  refine ⟨_, _, ob_S_mk (deep := deep) (cStr := cStr) (oOpen := oOpen) (te := te) (xArg := xArg) (ySeen := ySeen) (yArg := yArg) (yGiven := yGiven) R2 (by omega : m ≤ B) (by omega), fun post hp => ?_, fun post hp => ?_⟩
  · unfold wpX_stackOp
    refine br_f (by decide) (br_f (by decide) (br_f (by decide) (br_t rfl ?_)))
    exact hXp _ hp
  · unfold wpY_act; refine nm_r (nI_pred e) (br_f (by decide) (br_f (by decide) (br_f (by decide) (br_f (by decide) (br_f (by decide) (br_f (by decide) (?_)))))))
    unfold wY_act_49; refine br_f (by decide) ?_; unfold wY_act_65; refine br_f (by decide) (br_f (by decide) (br_f (by decide) (br_t rfl ?_)))
    exact hYp _ hp
theorem ob_op2 (R : ob_R n (e+1) b m res thr thn CL cOp cA cB OK oKin pVal aOut aVar FC FA FP FH FT fSelf stk TA TH xFc xFs xPc xKo xPk tw tc xSet S XH xHeld yCo yAr M yPair ySet yStay yHan yKept) (hm : m + 5 ≤ B) (hw : 4 * (e + 1) + ob_hs XH (e + 1) ≤ w) :
    ∃ u' v', ob_S b B (w + 4) u' v' ∧ (∀ post : SX → Prop, post u' → wpX_stackOp post (nI n, nI (e+1), nI b, deep, res, thr, thn, (fun zz => nI (CL zz)), cStr, cOp, cA, cB, (fun zz => nI (OK zz)), oKin, oOpen, xFc, xFs, xPc, xKo, xPk, (fun zz => ob_xa (tw zz) (te zz) (tc zz)), pVal, xSet, (fun zz => nI (S zz)), aOut, aVar, (fun zz => nI (FC zz)), (fun zz => nI (FP zz)), (fun zz => nI (FA zz)), (fun zz => nI (FH zz)), (fun zz => nI (XH zz)), (fun zz => nI (FT zz)), fSelf, xHeld, stk, (fun zz => nI (TA zz)), (fun zz => nI (TH zz)), xArg) 2 a bb) ∧ (∀ post : SY → Prop, post v' → wpY_act post (nI n, nI m, yGiven, nI (e+1), deep, nI b, thr, thn, res, cStr, (fun zz => nI (CL zz)), cOp, cA, cB, (fun zz => nI (OK zz)), oKin, yCo, yAr, oOpen, (fun zz => nI (M zz)), (fun zz => ob_yf (tw zz) (te zz) (tc zz)), yPair, ySeen, pVal, ySet, (fun zz => ob_th (S zz)), yStay, aOut, aVar, yArg, (fun zz => nI (FC zz)), (fun zz => nI (FA zz)), (fun zz => nI (FP zz)), (fun zz => nI (FH zz)), yHan, (fun zz => nI (FT zz)), (fun zz => nI (TA zz)), (fun zz => nI (TH zz)), fSelf, yKept, stk) 2 a bb) := by
  obtain ⟨r, FH', R1, hVr, hH, hX1, hY1⟩ := ob_pop (deep := deep) (cStr := cStr) (oOpen := oOpen) (te := te) (xArg := xArg) (ySeen := ySeen) (yArg := yArg) (yGiven := yGiven) R
  refine ⟨_, _, ob_S_mk (deep := deep) (cStr := cStr) (oOpen := oOpen) (te := te) (xArg := xArg) (ySeen := ySeen) (yArg := yArg) (yGiven := yGiven) R1 (by omega : m ≤ B) (by omega), fun post hp => ?_, fun post hp => ?_⟩
  · unfold wpX_stackOp
    refine br_f (by decide) (br_f (by decide) (br_f (by decide) (br_f (by decide) (br_t rfl ?_))))
    exact hX1 _ hp
  · unfold wpY_act; refine nm_r (nI_pred e) (br_t rfl ?_)
    unfold wY_act_41
    refine hY1 _ ?_
    unfold wY_act_49; refine br_f (by decide) ?_; unfold wY_act_65; refine br_f (by decide) (br_f (by decide) (br_f (by decide) (br_f (by decide) (br_t rfl ?_))))
    exact hp
theorem ob_op3 (R : ob_R n (e+1) b m res thr thn CL cOp cA cB OK oKin pVal aOut aVar FC FA FP FH FT fSelf stk TA TH xFc xFs xPc xKo xPk tw tc xSet S XH xHeld yCo yAr M yPair ySet yStay yHan yKept) (ht : thr = 0) (hm : m + 5 ≤ B) (hw : 4 * (e + 1) + ob_hs XH (e + 1) ≤ w) :
    ∃ u' v', ob_S b B (w + 4) u' v' ∧ (∀ post : SX → Prop, post u' → wpX_stackOp post (nI n, nI (e+1), nI b, deep, res, thr, thn, (fun zz => nI (CL zz)), cStr, cOp, cA, cB, (fun zz => nI (OK zz)), oKin, oOpen, xFc, xFs, xPc, xKo, xPk, (fun zz => ob_xa (tw zz) (te zz) (tc zz)), pVal, xSet, (fun zz => nI (S zz)), aOut, aVar, (fun zz => nI (FC zz)), (fun zz => nI (FP zz)), (fun zz => nI (FA zz)), (fun zz => nI (FH zz)), (fun zz => nI (XH zz)), (fun zz => nI (FT zz)), fSelf, xHeld, stk, (fun zz => nI (TA zz)), (fun zz => nI (TH zz)), xArg) 3 a bb) ∧ (∀ post : SY → Prop, post v' → wpY_act post (nI n, nI m, yGiven, nI (e+1), deep, nI b, thr, thn, res, cStr, (fun zz => nI (CL zz)), cOp, cA, cB, (fun zz => nI (OK zz)), oKin, yCo, yAr, oOpen, (fun zz => nI (M zz)), (fun zz => ob_yf (tw zz) (te zz) (tc zz)), yPair, ySeen, pVal, ySet, (fun zz => ob_th (S zz)), yStay, aOut, aVar, yArg, (fun zz => nI (FC zz)), (fun zz => nI (FA zz)), (fun zz => nI (FP zz)), (fun zz => nI (FH zz)), yHan, (fun zz => nI (FT zz)), (fun zz => nI (TA zz)), (fun zz => nI (TH zz)), fSelf, yKept, stk) 3 a bb) := by
  obtain ⟨r, FH', R1, hVr, hH, hX1, hY1⟩ := ob_pop (deep := deep) (cStr := cStr) (oOpen := oOpen) (te := te) (xArg := xArg) (ySeen := ySeen) (yArg := yArg) (yGiven := yGiven) R
  obtain ⟨R2, hX2, hY2⟩ := ob_push1 (deep := deep) (cStr := cStr) (oOpen := oOpen) (te := te) (xArg := xArg) (ySeen := ySeen) (yArg := yArg) (yGiven := yGiven) R1 hVr (by omega)
  obtain ⟨res', thr', thn', FH2, stk', R3, hX3, hY3⟩ := ob_push (deep := deep) (cStr := cStr) (oOpen := oOpen) (te := te) (xArg := xArg) (ySeen := ySeen) (yArg := yArg) (yGiven := yGiven) R2 hVr
  refine ⟨_, _, ob_S_mk (deep := deep) (cStr := cStr) (oOpen := oOpen) (te := te) (xArg := xArg) (ySeen := ySeen) (yArg := yArg) (yGiven := yGiven) R3 (by omega : m ≤ B) (by omega), fun post hp => ?_, fun post hp => ?_⟩
  · unfold wpX_stackOp
    refine br_f (by decide) (br_f (by decide) (br_f (by decide) (br_f (by decide) (br_f (by decide) (br_t rfl ?_)))))
    exact hX1 _ (hX2 _ (hX3 _ hp))
  · unfold wpY_act; refine nm_r (nI_pred e) (br_f (by decide) (br_t rfl ?_))
    unfold wY_act_41
    refine hY1 _ ?_
    unfold wY_act_49; refine br_f (by decide) ?_; unfold wY_act_65; refine br_f (by decide) (br_f (by decide) (br_f (by decide) (br_f (by decide) (br_f (by decide) (br_t rfl ?_)))))
    unfold wY_act_209
    exact hY2 _ (br_t ht (hY3 _ hp))
theorem ob_op4 (R : ob_R n (e+1) b m res thr thn CL cOp cA cB OK oKin pVal aOut aVar FC FA FP FH FT fSelf stk TA TH xFc xFs xPc xKo xPk tw tc xSet S XH xHeld yCo yAr M yPair ySet yStay yHan yKept) (ht : thr = 0) (hm : m + 5 ≤ B) (hw : 4 * (e + 1) + ob_hs XH (e + 1) ≤ w) :
    ∃ u' v', ob_S b B (w + 4) u' v' ∧ (∀ post : SX → Prop, post u' → wpX_stackOp post (nI n, nI (e+1), nI b, deep, res, thr, thn, (fun zz => nI (CL zz)), cStr, cOp, cA, cB, (fun zz => nI (OK zz)), oKin, oOpen, xFc, xFs, xPc, xKo, xPk, (fun zz => ob_xa (tw zz) (te zz) (tc zz)), pVal, xSet, (fun zz => nI (S zz)), aOut, aVar, (fun zz => nI (FC zz)), (fun zz => nI (FP zz)), (fun zz => nI (FA zz)), (fun zz => nI (FH zz)), (fun zz => nI (XH zz)), (fun zz => nI (FT zz)), fSelf, xHeld, stk, (fun zz => nI (TA zz)), (fun zz => nI (TH zz)), xArg) 4 a bb) ∧ (∀ post : SY → Prop, post v' → wpY_act post (nI n, nI m, yGiven, nI (e+1), deep, nI b, thr, thn, res, cStr, (fun zz => nI (CL zz)), cOp, cA, cB, (fun zz => nI (OK zz)), oKin, yCo, yAr, oOpen, (fun zz => nI (M zz)), (fun zz => ob_yf (tw zz) (te zz) (tc zz)), yPair, ySeen, pVal, ySet, (fun zz => ob_th (S zz)), yStay, aOut, aVar, yArg, (fun zz => nI (FC zz)), (fun zz => nI (FA zz)), (fun zz => nI (FP zz)), (fun zz => nI (FH zz)), yHan, (fun zz => nI (FT zz)), (fun zz => nI (TA zz)), (fun zz => nI (TH zz)), fSelf, yKept, stk) 4 a bb) := by
  obtain ⟨r, FH', R1, hVr, hH, hX1, hY1⟩ := ob_pop (deep := deep) (cStr := cStr) (oOpen := oOpen) (te := te) (xArg := xArg) (ySeen := ySeen) (yArg := yArg) (yGiven := yGiven) R
  obtain ⟨r2, FH2, R2, hVr2, hH2, hX2, hY2⟩ := ob_pop (deep := deep) (cStr := cStr) (oOpen := oOpen) (te := te) (xArg := xArg) (ySeen := ySeen) (yArg := yArg) (yGiven := yGiven) R1
  obtain ⟨R3, hX3, hY3⟩ := ob_push1 (deep := deep) (cStr := cStr) (oOpen := oOpen) (te := te) (xArg := xArg) (ySeen := ySeen) (yArg := yArg) (yGiven := yGiven) R2 hVr (by omega)
  obtain ⟨res', thr', thn', FH4, stk', R4, hX4, hY4⟩ := ob_push (deep := deep) (cStr := cStr) (oOpen := oOpen) (te := te) (xArg := xArg) (ySeen := ySeen) (yArg := yArg) (yGiven := yGiven) R3 hVr2
  refine ⟨_, _, ob_S_mk (deep := deep) (cStr := cStr) (oOpen := oOpen) (te := te) (xArg := xArg) (ySeen := ySeen) (yArg := yArg) (yGiven := yGiven) R4 (by omega : m ≤ B) (by omega), fun post hp => ?_, fun post hp => ?_⟩
  · unfold wpX_stackOp
    refine br_f (by decide) (br_f (by decide) (br_f (by decide) (br_f (by decide) (br_f (by decide) (br_f (by decide) (br_t rfl ?_))))))
    exact hX1 _ (hX2 _ (hX3 _ (hX4 _ hp)))
  · unfold wpY_act; refine nm_r (nI_pred e) (br_f (by decide) (br_f (by decide) (br_t rfl ?_)))
    unfold wY_act_41
    refine hY1 _ ?_
    unfold wY_act_49
    refine br_t rfl (hY2 _ ?_)
    unfold wY_act_65; refine br_f (by decide) (br_f (by decide) (br_f (by decide) (br_f (by decide) (br_f (by decide) (br_f (by decide) (br_t rfl ?_))))))
    unfold wY_act_209
    exact hY3 _ (br_t ht (hY4 _ hp))
theorem ob_op7 (R : ob_R n (e+1) b m res thr thn CL cOp cA cB OK oKin pVal aOut aVar FC FA FP FH FT fSelf stk TA TH xFc xFs xPc xKo xPk tw tc xSet S XH xHeld yCo yAr M yPair ySet yStay yHan yKept) (hm : m + 5 ≤ B) (hw : 4 * (e + 1) + ob_hs XH (e + 1) ≤ w) :
    ∃ u' v', ob_S b B (w + 4) u' v' ∧ (∀ post : SX → Prop, post u' → wpX_stackOp post (nI n, nI (e+1), nI b, deep, res, thr, thn, (fun zz => nI (CL zz)), cStr, cOp, cA, cB, (fun zz => nI (OK zz)), oKin, oOpen, xFc, xFs, xPc, xKo, xPk, (fun zz => ob_xa (tw zz) (te zz) (tc zz)), pVal, xSet, (fun zz => nI (S zz)), aOut, aVar, (fun zz => nI (FC zz)), (fun zz => nI (FP zz)), (fun zz => nI (FA zz)), (fun zz => nI (FH zz)), (fun zz => nI (XH zz)), (fun zz => nI (FT zz)), fSelf, xHeld, stk, (fun zz => nI (TA zz)), (fun zz => nI (TH zz)), xArg) 7 a bb) ∧ (∀ post : SY → Prop, post v' → wpY_act post (nI n, nI m, yGiven, nI (e+1), deep, nI b, thr, thn, res, cStr, (fun zz => nI (CL zz)), cOp, cA, cB, (fun zz => nI (OK zz)), oKin, yCo, yAr, oOpen, (fun zz => nI (M zz)), (fun zz => ob_yf (tw zz) (te zz) (tc zz)), yPair, ySeen, pVal, ySet, (fun zz => ob_th (S zz)), yStay, aOut, aVar, yArg, (fun zz => nI (FC zz)), (fun zz => nI (FA zz)), (fun zz => nI (FP zz)), (fun zz => nI (FH zz)), yHan, (fun zz => nI (FT zz)), (fun zz => nI (TA zz)), (fun zz => nI (TH zz)), fSelf, yKept, stk) 7 a bb) := by
  obtain ⟨he, hc⟩ := ob_frC R
  have hv : ob_V n (fSelf e) := (R.2.2.2.2.2.2.1.2.1 e (by omega)).2.2.2.2.2.2.2.2.2.1
  obtain ⟨res', thr', thn', FH', stk', R2, hXp, hYp⟩ := ob_push (deep := deep) (cStr := cStr) (oOpen := oOpen) (te := te) (xArg := xArg) (ySeen := ySeen) (yArg := yArg) (yGiven := yGiven) R hv
  refine ⟨_, _, ob_S_mk (deep := deep) (cStr := cStr) (oOpen := oOpen) (te := te) (xArg := xArg) (ySeen := ySeen) (yArg := yArg) (yGiven := yGiven) R2 (by omega : m ≤ B) (by omega), fun post hp => ?_, fun post hp => ?_⟩
  · unfold wpX_stackOp
    refine br_f (by decide) (br_t (by decide) ?_)
    simp (disch := first | omega | decide) only [forall_eq, not_true, not_false_iff, false_implies, true_implies, true_and, and_true, ob_sub1, Nat.add_sub_cancel, nI_1, ob_ix, ob_iy, ob_ix24, ob_iy24, ob_ix10, ob_iy10, ob_ix4, ob_iy4, ob_ix3, ob_iy3, ob_s1, ob_s2, ob_s3, ob_s4, ob_ltl, ob_lel, ob_eql, ob_ltr, ob_ler, ob_uN, Nat.add_one_ne_zero, ob_xs3, ob_lnn, ob_ltn, ob_eqn, Nat.not_lt_zero, Nat.zero_le, Nat.reduceEqDiff, Nat.reduceLeDiff, Nat.reduceLT, ob_eqll, Int32.reduceLT, Int32.reduceLE, eq_self_iff_true]
    exact hXp _ hp
  · unfold wpY_act; refine nm_r (nI_pred e) (br_f (by decide) (br_f (by decide) (br_f (by decide) (br_f (by decide) (br_f (by decide) (br_f (by decide) (?_)))))))
    unfold wY_act_49; refine br_f (by decide) ?_; unfold wY_act_65; refine br_f (by decide) (br_f (by decide) (br_f (by decide) (br_f (by decide) (br_f (by decide) (br_f (by decide) (br_f (by decide) (br_f (by decide) (br_f (by decide) (br_t rfl ?_)))))))))
    simp (disch := first | omega | decide) only [forall_eq, not_true, not_false_iff, false_implies, true_implies, true_and, and_true, ob_sub1, Nat.add_sub_cancel, nI_1, ob_ix, ob_iy, ob_ix24, ob_iy24, ob_ix10, ob_iy10, ob_ix4, ob_iy4, ob_ix3, ob_iy3, ob_s1, ob_s2, ob_s3, ob_s4, ob_ltl, ob_lel, ob_eql, ob_ltr, ob_ler, ob_uN, Nat.add_one_ne_zero, ob_xs3, ob_lnn, ob_ltn, ob_eqn, Nat.not_lt_zero, Nat.zero_le, Nat.reduceEqDiff, Nat.reduceLeDiff, Nat.reduceLT, ob_eqll, Int32.reduceLT, Int32.reduceLE, eq_self_iff_true]
    exact hYp _ hp
/-- the activation some steps around -/
theorem ob_arnd (hA : ob_gA n OK S xFc xFs yCo yAr yStay aOut aVar) : ∀ j i x, (x = -1 ∨ ∃ q, q < 24 ∧ x = nI q ∧ S q ≠ 0) → ∃ r : Int32, (r = -1 ∨ ∃ q, q < 24 ∧ r = nI q ∧ S q ≠ 0) ∧
    (∀ post : Int32 → Prop, post r → wX_activationAt_14 post (nI (i + j)) (nI n) (nI d) (nI b) deep res thr thn (fun zz => nI (CL zz)) cStr cOp cA cB (fun zz => nI (OK zz)) oKin oOpen xFc xFs xPc xKo xPk (fun zz => ob_xa (tw zz) (te zz) (tc zz)) pVal xSet (fun zz => nI (S zz)) aOut aVar (fun zz => nI (FC zz)) (fun zz => nI (FP zz)) (fun zz => nI (FA zz)) (fun zz => nI (FH zz)) (fun zz => nI (XH zz)) (fun zz => nI (FT zz)) fSelf xHeld stk (fun zz => nI (TA zz)) (fun zz => nI (TH zz)) xArg (j + 1) x (nI i)) ∧
    (∀ (post : SY → Prop) (x1 x3 : Int32) (FH' : Nat → Nat), wY_variable_42 post x1 x3 r (nI n) (nI m) yGiven (nI d) deep (nI b) thr thn res cStr (fun zz => nI (CL zz)) cOp cA cB (fun zz => nI (OK zz)) oKin yCo yAr oOpen (fun zz => nI (M zz)) (fun zz => ob_yf (tw zz) (te zz) (tc zz)) yPair ySeen pVal ySet (fun zz => ob_th (S zz)) yStay aOut aVar yArg (fun zz => nI (FC zz)) (fun zz => nI (FA zz)) (fun zz => nI (FP zz)) (fun zz => nI (FH' zz)) yHan (fun zz => nI (FT zz)) (fun zz => nI (TA zz)) (fun zz => nI (TH zz)) fSelf yKept stk → wY_variable_16 post x1 (nI (i + j)) x3 (nI n) (nI m) yGiven (nI d) deep (nI b) thr thn res cStr (fun zz => nI (CL zz)) cOp cA cB (fun zz => nI (OK zz)) oKin yCo yAr oOpen (fun zz => nI (M zz)) (fun zz => ob_yf (tw zz) (te zz) (tc zz)) yPair ySeen pVal ySet (fun zz => ob_th (S zz)) yStay aOut aVar yArg (fun zz => nI (FC zz)) (fun zz => nI (FA zz)) (fun zz => nI (FP zz)) (fun zz => nI (FH' zz)) yHan (fun zz => nI (FT zz)) (fun zz => nI (TA zz)) (fun zz => nI (TH zz)) fSelf yKept stk (j + 1) x (nI i)) := by
  intro j
  induction j with
  | zero =>
    intro i x hx
    have hle : nI (i + 0) ≤ nI i := Int32.le_refl _
    refine ⟨x, hx, fun post hp => ?_, fun post x1 x3 FH' hp => ?_⟩
    · unfold wX_activationAt_14
      exact br_t hle hp
    · unfold wY_variable_16
      exact br_t hle hp
  | succ j ih =>
    intro i x hx
    by_cases hle : nI (i + (j + 1)) ≤ nI i
    · refine ⟨x, hx, fun post hp => ?_, fun post x1 x3 FH' hp => ?_⟩
      · unfold wX_activationAt_14
        exact br_t hle hp
      · unfold wY_variable_16
        exact br_t hle hp
    · rcases hx with rfl | ⟨q, hq, rfl, hS⟩
      · refine ⟨-1, Or.inl rfl, fun post hp => ?_, fun post x1 x3 FH' hp => ?_⟩
        · unfold wX_activationAt_14
          exact br_f hle (br_t (by decide) hp)
        · unfold wY_variable_16
          exact br_f hle (br_t (by decide) hp)
      · obtain ⟨_, hsc, _⟩ := (hA.2 q hq).2 hS
        have hx2 : aOut q = -1 ∨ ∃ p, p < 24 ∧ aOut q = nI p ∧ S p ≠ 0 := by
          rcases hsc with h | ⟨p, h1, h2, h3⟩
          · exact Or.inl h
          · exact Or.inr ⟨p, h1, h2, by omega⟩
        obtain ⟨r, hr, hX, hY⟩ := ih (i + 1) (aOut q) hx2
        rw [show i + 1 + j = i + (j + 1) from by omega] at hX hY
        have hcl : (nI q).toNatClampNeg = q := ob_cl (by omega)
        have hin : vp_in (nI q) 24 := vp_in_nI hq (by decide)
        refine ⟨r, hr, fun post hp => ?_, fun post x1 x3 FH' hp => ?_⟩
        · unfold wX_activationAt_14
          refine br_f hle (br_f (nI_pos (by omega)) ⟨hin, ?_⟩)
          rw [hcl, nI_1]
          exact nm_e (nm_e (hX post hp))
        · unfold wY_variable_16
          refine br_f hle (br_f (nI_pos (by omega)) ⟨hin, ?_⟩)
          rw [hcl, nI_1]
          exact nm_e (nm_e (hY post x1 x3 FH' hp))
end
