/-! ===== one instruction ===== -/
/-- how the component finds the instruction -/
def ob_xd (post : SX → Prop) (u : SX) (q a bb : Int32) : Prop :=
  (7 < q → (13 < q → (18 < q → (24 < q → (27 < q → wpX_valueOp post u q a) ∧ (¬ 27 < q → wpX_numberOp post u q)) ∧ (¬ 24 < q → wpX_controlOp post u q a)) ∧ (¬ 18 < q → wpX_makeOp post u q a)) ∧ (¬ 13 < q → wpX_propertyOp post u q a)) ∧ (¬ 7 < q → wpX_stackOp post u q a bb)
section
variable {n : Nat} {d : Nat} {b : Nat} {m : Nat} {deep : Int32} {res : Int64} {thr : Int32} {thn : Int64} {CL : Nat → Nat} {cStr : Nat → Int32} {cOp : Nat → Int32} {cA : Nat → Int32} {cB : Nat → Int32} {OK : Nat → Nat} {oKin : Nat → Int32} {oOpen : Nat → Int32} {pVal : Nat → Int64} {aOut : Nat → Int32} {aVar : Nat → Int64} {FC : Nat → Nat} {FA : Nat → Nat} {FP : Nat → Nat} {FH : Nat → Nat} {FT : Nat → Nat} {fSelf : Nat → Int64} {stk : Nat → Int64} {TA : Nat → Nat} {TH : Nat → Nat} {xFc : Nat → Int32} {xFs : Nat → Int32} {xPc : Nat → Int32} {xKo : Nat → Int32} {xPk : Nat → Int32} {tw : Nat → Bool} {te : Nat → Bool} {tc : Nat → Bool} {xSet : Nat → Int64} {S : Nat → Nat} {XH : Nat → Nat} {xHeld : Nat → Int64} {xArg : Nat → Int64} {yCo : Nat → Int32} {yAr : Nat → Int32} {M : Nat → Nat} {yPair : Nat → Int32} {ySeen : Nat → Int32} {ySet : Nat → Int64} {yStay : Nat → Int32} {yArg : Nat → Int64} {yHan : Nat → Int32} {yKept : Nat → Int64} {yGiven : Int32}
variable {e B w : Nat} {op a bb : Int32}
theorem ob_act (R : ob_R n (e+1) b m res thr thn CL cOp cA cB OK oKin pVal aOut aVar FC FA FP FH FT fSelf stk TA TH xFc xFs xPc xKo xPk tw tc xSet S XH xHeld yCo yAr M yPair ySet yStay yHan yKept) (ht : thr = 0) (hok : ob_ok op a bb) (hm : m + 5 ≤ B) (hB : B < 2 ^ 31) (hw : 4 * (e + 1) + ob_hs XH (e + 1) ≤ w) :
    ∃ u' v', ob_S b B (w + 4) u' v' ∧ (∀ post : SX → Prop, post u' → ob_xd post (nI n, nI (e+1), nI b, deep, res, thr, thn, (fun zz => nI (CL zz)), cStr, cOp, cA, cB, (fun zz => nI (OK zz)), oKin, oOpen, xFc, xFs, xPc, xKo, xPk, (fun zz => ob_xa (tw zz) (te zz) (tc zz)), pVal, xSet, (fun zz => nI (S zz)), aOut, aVar, (fun zz => nI (FC zz)), (fun zz => nI (FP zz)), (fun zz => nI (FA zz)), (fun zz => nI (FH zz)), (fun zz => nI (XH zz)), (fun zz => nI (FT zz)), fSelf, xHeld, stk, (fun zz => nI (TA zz)), (fun zz => nI (TH zz)), xArg) op a bb) ∧ (∀ post : SY → Prop, post v' → wpY_act post (nI n, nI m, yGiven, nI (e+1), deep, nI b, thr, thn, res, cStr, (fun zz => nI (CL zz)), cOp, cA, cB, (fun zz => nI (OK zz)), oKin, yCo, yAr, oOpen, (fun zz => nI (M zz)), (fun zz => ob_yf (tw zz) (te zz) (tc zz)), yPair, ySeen, pVal, ySet, (fun zz => ob_th (S zz)), yStay, aOut, aVar, yArg, (fun zz => nI (FC zz)), (fun zz => nI (FA zz)), (fun zz => nI (FP zz)), (fun zz => nI (FH zz)), yHan, (fun zz => nI (FT zz)), (fun zz => nI (TA zz)), (fun zz => nI (TH zz)), fSelf, yKept, stk) op a bb) := by
  obtain ⟨q, hq, rfl, hA, hV⟩ := hok
  have hcases : q = 0 ∨ q = 1 ∨ q = 2 ∨ q = 3 ∨ q = 4 ∨ q = 5 ∨ q = 6 ∨ q = 7 ∨ q = 8 ∨ q = 9 ∨ q = 10 ∨ q = 11 ∨ q = 12 ∨ q = 13 ∨ q = 14 ∨ q = 15 ∨ q = 16 ∨ q = 17 ∨ q = 18 ∨ q = 19 ∨ q = 20 ∨ q = 21 ∨ q = 22 ∨ q = 23 ∨ q = 24 ∨ q = 25 ∨ q = 26 ∨ q = 27 ∨ q = 28 ∨ q = 29 ∨ q = 30 ∨ q = 31 := by omega
  rcases hcases with rfl | rfl | rfl | rfl | rfl | rfl | rfl | rfl | rfl | rfl | rfl | rfl | rfl | rfl | rfl | rfl | rfl | rfl | rfl | rfl | rfl | rfl | rfl | rfl | rfl | rfl | rfl | rfl | rfl | rfl | rfl | rfl
  · obtain ⟨u2, v2, hS, hX, hY⟩ := ob_op0 (deep := deep) (cStr := cStr) (oOpen := oOpen) (te := te) (xArg := xArg) (ySeen := ySeen) (yArg := yArg) (yGiven := yGiven) (a := a) (bb := bb) (B := B) (w := w) R hm hw
    refine ⟨u2, v2, hS, fun post hp => br_f (by decide) (hX post hp), fun post hp => ?_⟩
    exact hY post hp
  · obtain ⟨x, hx, rfl⟩ := hA _ rfl
    obtain ⟨u2, v2, hS, hX, hY⟩ := ob_op1 (deep := deep) (cStr := cStr) (oOpen := oOpen) (te := te) (xArg := xArg) (ySeen := ySeen) (yArg := yArg) (yGiven := yGiven) (bb := bb) (B := B) (w := w) R hm hw hx
    refine ⟨u2, v2, hS, fun post hp => br_f (by decide) (hX post hp), fun post hp => ?_⟩
    exact hY post hp
  · obtain ⟨u2, v2, hS, hX, hY⟩ := ob_op2 (deep := deep) (cStr := cStr) (oOpen := oOpen) (te := te) (xArg := xArg) (ySeen := ySeen) (yArg := yArg) (yGiven := yGiven) (a := a) (bb := bb) (B := B) (w := w) R hm hw
    refine ⟨u2, v2, hS, fun post hp => br_f (by decide) (hX post hp), fun post hp => ?_⟩
    exact hY post hp
  · obtain ⟨u2, v2, hS, hX, hY⟩ := ob_op3 (deep := deep) (cStr := cStr) (oOpen := oOpen) (te := te) (xArg := xArg) (ySeen := ySeen) (yArg := yArg) (yGiven := yGiven) (a := a) (bb := bb) (B := B) (w := w) R ht hm hw
    refine ⟨u2, v2, hS, fun post hp => br_f (by decide) (hX post hp), fun post hp => ?_⟩
    exact hY post hp
  · obtain ⟨u2, v2, hS, hX, hY⟩ := ob_op4 (deep := deep) (cStr := cStr) (oOpen := oOpen) (te := te) (xArg := xArg) (ySeen := ySeen) (yArg := yArg) (yGiven := yGiven) (a := a) (bb := bb) (B := B) (w := w) R ht hm hw
    refine ⟨u2, v2, hS, fun post hp => br_f (by decide) (hX post hp), fun post hp => ?_⟩
    exact hY post hp
  · obtain ⟨x, hx, rfl⟩ := hA _ rfl
    obtain ⟨y, hy, rfl⟩ := hV (Or.inl rfl)
    obtain ⟨u2, v2, hS, hX, hY⟩ := ob_op5 (deep := deep) (cStr := cStr) (oOpen := oOpen) (te := te) (xArg := xArg) (ySeen := ySeen) (yArg := yArg) (yGiven := yGiven) (B := B) (w := w) R hm hw hx hy
    refine ⟨u2, v2, hS, fun post hp => br_f (by decide) (hX post hp), fun post hp => ?_⟩
    exact hY post hp
  · obtain ⟨x, hx, rfl⟩ := hA _ rfl
    obtain ⟨y, hy, rfl⟩ := hV (Or.inr rfl)
    obtain ⟨u2, v2, hS, hX, hY⟩ := ob_op6 (deep := deep) (cStr := cStr) (oOpen := oOpen) (te := te) (xArg := xArg) (ySeen := ySeen) (yArg := yArg) (yGiven := yGiven) (B := B) (w := w) R hm hw hx hy
    refine ⟨u2, v2, hS, fun post hp => br_f (by decide) (hX post hp), fun post hp => ?_⟩
    exact hY post hp
  · obtain ⟨u2, v2, hS, hX, hY⟩ := ob_op7 (deep := deep) (cStr := cStr) (oOpen := oOpen) (te := te) (xArg := xArg) (ySeen := ySeen) (yArg := yArg) (yGiven := yGiven) (a := a) (bb := bb) (B := B) (w := w) R hm hw
    refine ⟨u2, v2, hS, fun post hp => br_f (by decide) (hX post hp), fun post hp => ?_⟩
    exact hY post hp
  · obtain ⟨x, hx, rfl⟩ := hA _ rfl
    obtain ⟨u2, v2, hS, hX, hY⟩ := ob_op8 (deep := deep) (cStr := cStr) (oOpen := oOpen) (te := te) (xArg := xArg) (ySeen := ySeen) (yArg := yArg) (yGiven := yGiven) (k := x) (B := B) (w := w) R hm hB hw (by omega)
    refine ⟨u2, v2, hS, fun post hp => br_t (by decide) (br_f (by decide) (hX post hp)), fun post hp => ?_⟩
    unfold wpY_act; refine nm_r (nI_pred e) (br_f (by decide) (br_f (by decide) (br_f (by decide) (br_f (by decide) (br_f (by decide) (br_f (by decide) (?_)))))))
    unfold wY_act_49; refine br_f (by decide) ?_; unfold wY_act_65; refine br_f (by decide) (br_f (by decide) (br_f (by decide) (br_f (by decide) (br_f (by decide) (br_f (by decide) (br_f (by decide) (br_f (by decide) (br_f (by decide) (br_f (by decide) (br_t rfl ?_))))))))))
    unfold wY_act_255
    exact hY _ hp
  · obtain ⟨x, hx, rfl⟩ := hA _ rfl
    obtain ⟨u2, v2, hS, hX, hY⟩ := ob_op9 (deep := deep) (cStr := cStr) (oOpen := oOpen) (te := te) (xArg := xArg) (ySeen := ySeen) (yArg := yArg) (yGiven := yGiven) (k := x) (B := B) (w := w) R hm hB hw (by omega)
    refine ⟨u2, v2, hS, fun post hp => br_t (by decide) (br_f (by decide) (hX post hp)), fun post hp => ?_⟩
    unfold wpY_act; refine nm_r (nI_pred e) (br_f (by decide) (br_f (by decide) (br_f (by decide) (br_f (by decide) (br_f (by decide) (br_f (by decide) (?_)))))))
    unfold wY_act_49; refine br_f (by decide) ?_; unfold wY_act_65; refine br_f (by decide) (br_f (by decide) (br_f (by decide) (br_f (by decide) (br_f (by decide) (br_f (by decide) (br_f (by decide) (br_f (by decide) (br_f (by decide) (br_f (by decide) (br_f (by decide) (br_t rfl ?_)))))))))))
    unfold wY_act_255
    exact hY _ hp
  · obtain ⟨u2, v2, hS, hX, hY⟩ := ob_op10 (deep := deep) (cStr := cStr) (oOpen := oOpen) (te := te) (xArg := xArg) (ySeen := ySeen) (yArg := yArg) (yGiven := yGiven) (a := a) (B := B) (w := w) R hm hB hw
    refine ⟨u2, v2, hS, fun post hp => br_t (by decide) (br_f (by decide) (hX post hp)), fun post hp => ?_⟩
    unfold wpY_act; refine nm_r (nI_pred e) (br_f (by decide) (br_f (by decide) (br_f (by decide) (br_f (by decide) (br_f (by decide) (br_f (by decide) (?_)))))))
    unfold wY_act_49; refine br_f (by decide) ?_; unfold wY_act_65; refine br_f (by decide) (br_f (by decide) (br_f (by decide) (br_f (by decide) (br_f (by decide) (br_f (by decide) (br_f (by decide) (br_f (by decide) (br_f (by decide) (br_f (by decide) (br_f (by decide) (br_f (by decide) (br_t rfl ?_))))))))))))
    unfold wY_act_255
    exact hY _ hp
  · obtain ⟨u2, v2, hS, hX, hY⟩ := ob_op11 (deep := deep) (cStr := cStr) (oOpen := oOpen) (te := te) (xArg := xArg) (ySeen := ySeen) (yArg := yArg) (yGiven := yGiven) (a := a) (B := B) (w := w) R hm hB hw
    refine ⟨u2, v2, hS, fun post hp => br_t (by decide) (br_f (by decide) (hX post hp)), fun post hp => ?_⟩
    unfold wpY_act; refine nm_r (nI_pred e) (br_f (by decide) (br_f (by decide) (br_f (by decide) (br_f (by decide) (br_f (by decide) (br_f (by decide) (?_)))))))
    unfold wY_act_49; refine br_f (by decide) ?_; unfold wY_act_65; refine br_f (by decide) (br_f (by decide) (br_f (by decide) (br_f (by decide) (br_f (by decide) (br_f (by decide) (br_f (by decide) (br_f (by decide) (br_f (by decide) (br_f (by decide) (br_f (by decide) (br_f (by decide) (br_f (by decide) (br_t rfl ?_)))))))))))))
    unfold wY_act_255
    exact hY _ hp
  · obtain ⟨x, hx, rfl⟩ := hA _ rfl
    obtain ⟨u2, v2, hS, hX, hY⟩ := ob_op12 (deep := deep) (cStr := cStr) (oOpen := oOpen) (te := te) (xArg := xArg) (ySeen := ySeen) (yArg := yArg) (yGiven := yGiven) (k := x) (B := B) (w := w) R hm hB hw (by omega)
    refine ⟨u2, v2, hS, fun post hp => br_t (by decide) (br_f (by decide) (hX post hp)), fun post hp => ?_⟩
    unfold wpY_act; refine nm_r (nI_pred e) (br_f (by decide) (br_f (by decide) (br_f (by decide) (br_f (by decide) (br_f (by decide) (br_f (by decide) (?_)))))))
    unfold wY_act_49; refine br_f (by decide) ?_; unfold wY_act_65; refine br_f (by decide) (br_f (by decide) (br_f (by decide) (br_f (by decide) (br_f (by decide) (br_f (by decide) (br_f (by decide) (br_f (by decide) (br_f (by decide) (br_f (by decide) (br_f (by decide) (br_f (by decide) (br_f (by decide) (br_f (by decide) (br_t rfl ?_))))))))))))))
    unfold wY_act_264
    exact hY _ hp
  · obtain ⟨x, hx, rfl⟩ := hA _ rfl
    obtain ⟨u2, v2, hS, hX, hY⟩ := ob_op13 (deep := deep) (cStr := cStr) (oOpen := oOpen) (te := te) (xArg := xArg) (ySeen := ySeen) (yArg := yArg) (yGiven := yGiven) (k := x) (B := B) (w := w) R hm hB hw (by omega)
    refine ⟨u2, v2, hS, fun post hp => br_t (by decide) (br_f (by decide) (hX post hp)), fun post hp => ?_⟩
    unfold wpY_act; refine nm_r (nI_pred e) (br_f (by decide) (br_f (by decide) (br_f (by decide) (br_f (by decide) (br_f (by decide) (br_f (by decide) (?_)))))))
    unfold wY_act_49; refine br_f (by decide) ?_; unfold wY_act_65; refine br_f (by decide) (br_f (by decide) (br_f (by decide) (br_f (by decide) (br_f (by decide) (br_f (by decide) (br_f (by decide) (br_f (by decide) (br_f (by decide) (br_f (by decide) (br_f (by decide) (br_f (by decide) (br_f (by decide) (br_f (by decide) (br_f (by decide) (br_t rfl ?_)))))))))))))))
    unfold wY_act_264
    exact hY _ hp
  · obtain ⟨u2, v2, hS, hX, hY⟩ := ob_op14 (deep := deep) (cStr := cStr) (oOpen := oOpen) (te := te) (xArg := xArg) (ySeen := ySeen) (yArg := yArg) (yGiven := yGiven) (a := a) (B := B) (w := w) R hm hw
    refine ⟨u2, v2, hS, fun post hp => br_t (by decide) (br_t (by decide) (br_f (by decide) (hX post hp))), fun post hp => ?_⟩
    unfold wpY_act; refine nm_r (nI_pred e) (br_f (by decide) (br_f (by decide) (br_f (by decide) (br_f (by decide) (br_f (by decide) (br_f (by decide) (?_)))))))
    unfold wY_act_49; refine br_f (by decide) ?_; unfold wY_act_65; refine br_f (by decide) (br_f (by decide) (br_f (by decide) (br_f (by decide) (br_f (by decide) (br_f (by decide) (br_f (by decide) (br_f (by decide) (br_f (by decide) (br_f (by decide) (br_f (by decide) (br_f (by decide) (br_f (by decide) (br_f (by decide) (br_f (by decide) (br_f (by decide) (br_t rfl ?_))))))))))))))))
    unfold wY_act_273
    exact hY _ hp
  · obtain ⟨x, hx, rfl⟩ := hA _ rfl
    obtain ⟨u2, v2, hS, hX, hY⟩ := ob_op15 (deep := deep) (cStr := cStr) (oOpen := oOpen) (te := te) (xArg := xArg) (ySeen := ySeen) (yArg := yArg) (yGiven := yGiven) (B := B) (w := w) R hm hB hw hx
    refine ⟨u2, v2, hS, fun post hp => br_t (by decide) (br_t (by decide) (br_f (by decide) (hX post hp))), fun post hp => ?_⟩
    unfold wpY_act; refine nm_r (nI_pred e) (br_f (by decide) (br_f (by decide) (br_f (by decide) (br_f (by decide) (br_f (by decide) (br_f (by decide) (?_)))))))
    unfold wY_act_49; refine br_f (by decide) ?_; unfold wY_act_65; refine br_f (by decide) (br_f (by decide) (br_f (by decide) (br_f (by decide) (br_f (by decide) (br_f (by decide) (br_f (by decide) (br_f (by decide) (br_f (by decide) (br_f (by decide) (br_f (by decide) (br_f (by decide) (br_f (by decide) (br_f (by decide) (br_f (by decide) (br_f (by decide) (br_f (by decide) (br_t rfl ?_)))))))))))))))))
    unfold wY_act_273
    exact hY _ hp
  · obtain ⟨x, hx, rfl⟩ := hA _ rfl
    obtain ⟨u2, v2, hS, hX, hY⟩ := ob_op16 (deep := deep) (cStr := cStr) (oOpen := oOpen) (te := te) (xArg := xArg) (ySeen := ySeen) (yArg := yArg) (yGiven := yGiven) (B := B) (w := w) R hm hw hx
    refine ⟨u2, v2, hS, fun post hp => br_t (by decide) (br_t (by decide) (br_f (by decide) (hX post hp))), fun post hp => ?_⟩
    unfold wpY_act; refine nm_r (nI_pred e) (br_f (by decide) (br_f (by decide) (br_f (by decide) (br_f (by decide) (br_f (by decide) (br_f (by decide) (?_)))))))
    unfold wY_act_49; refine br_f (by decide) ?_; unfold wY_act_65; refine br_f (by decide) (br_f (by decide) (br_f (by decide) (br_f (by decide) (br_f (by decide) (br_f (by decide) (br_f (by decide) (br_f (by decide) (br_f (by decide) (br_f (by decide) (br_f (by decide) (br_f (by decide) (br_f (by decide) (br_f (by decide) (br_f (by decide) (br_f (by decide) (br_f (by decide) (br_f (by decide) (br_t rfl ?_))))))))))))))))))
    unfold wY_act_273
    exact hY _ hp
  · obtain ⟨x, hx, rfl⟩ := hA _ rfl
    obtain ⟨u2, v2, hS, hX, hY⟩ := ob_op17 (deep := deep) (cStr := cStr) (oOpen := oOpen) (te := te) (xArg := xArg) (ySeen := ySeen) (yArg := yArg) (yGiven := yGiven) (B := B) (w := w) R hm hw hx
    refine ⟨u2, v2, hS, fun post hp => br_t (by decide) (br_t (by decide) (br_f (by decide) (hX post hp))), fun post hp => ?_⟩
    unfold wpY_act; refine nm_r (nI_pred e) (br_f (by decide) (br_f (by decide) (br_f (by decide) (br_f (by decide) (br_f (by decide) (br_f (by decide) (?_)))))))
    unfold wY_act_49; refine br_f (by decide) ?_; unfold wY_act_65; refine br_f (by decide) (br_f (by decide) (br_f (by decide) (br_f (by decide) (br_f (by decide) (br_f (by decide) (br_f (by decide) (br_f (by decide) (br_f (by decide) (br_f (by decide) (br_f (by decide) (br_f (by decide) (br_f (by decide) (br_f (by decide) (br_f (by decide) (br_f (by decide) (br_f (by decide) (br_f (by decide) (br_f (by decide) (br_t rfl ?_)))))))))))))))))))
    unfold wY_act_282
    exact hY _ hp
  · obtain ⟨x, hx, rfl⟩ := hA _ rfl
    obtain ⟨u2, v2, hS, hX, hY⟩ := ob_op18 (deep := deep) (cStr := cStr) (oOpen := oOpen) (te := te) (xArg := xArg) (ySeen := ySeen) (yArg := yArg) (yGiven := yGiven) (B := B) (w := w) R hm hB hw hx
    refine ⟨u2, v2, hS, fun post hp => br_t (by decide) (br_t (by decide) (br_f (by decide) (hX post hp))), fun post hp => ?_⟩
    unfold wpY_act; refine nm_r (nI_pred e) (br_f (by decide) (br_f (by decide) (br_f (by decide) (br_f (by decide) (br_f (by decide) (br_f (by decide) (?_)))))))
    unfold wY_act_49; refine br_f (by decide) ?_; unfold wY_act_65; refine br_f (by decide) (br_f (by decide) (br_f (by decide) (br_f (by decide) (br_f (by decide) (br_f (by decide) (br_f (by decide) (br_f (by decide) (br_f (by decide) (br_f (by decide) (br_f (by decide) (br_f (by decide) (br_f (by decide) (br_f (by decide) (br_f (by decide) (br_f (by decide) (br_f (by decide) (br_f (by decide) (br_f (by decide) (br_f (by decide) (br_t rfl ?_))))))))))))))))))))
    unfold wY_act_282
    exact hY _ hp
  · obtain ⟨u2, v2, hS, hX, hY⟩ := ob_op19 (deep := deep) (cStr := cStr) (oOpen := oOpen) (te := te) (xArg := xArg) (ySeen := ySeen) (yArg := yArg) (yGiven := yGiven) (a := a) (bb := bb) (B := B) (w := w) R hm hw
    refine ⟨u2, v2, hS, fun post hp => br_t (by decide) (br_t (by decide) (br_t (by decide) (br_f (by decide) (hX post hp)))), fun post hp => ?_⟩
    exact hY post hp
  · obtain ⟨u2, v2, hS, hX, hY⟩ := ob_op20 (deep := deep) (cStr := cStr) (oOpen := oOpen) (te := te) (xArg := xArg) (ySeen := ySeen) (yArg := yArg) (yGiven := yGiven) (a := a) (bb := bb) (B := B) (w := w) R hm hw
    refine ⟨u2, v2, hS, fun post hp => br_t (by decide) (br_t (by decide) (br_t (by decide) (br_f (by decide) (hX post hp)))), fun post hp => ?_⟩
    exact hY post hp
  · obtain ⟨x, hx, rfl⟩ := hA _ rfl
    obtain ⟨u2, v2, hS, hX, hY⟩ := ob_op21 (deep := deep) (cStr := cStr) (oOpen := oOpen) (te := te) (xArg := xArg) (ySeen := ySeen) (yArg := yArg) (yGiven := yGiven) (bb := bb) (B := B) (w := w) R hm hw hx
    refine ⟨u2, v2, hS, fun post hp => br_t (by decide) (br_t (by decide) (br_t (by decide) (br_f (by decide) (hX post hp)))), fun post hp => ?_⟩
    exact hY post hp
  · obtain ⟨u2, v2, hS, hX, hY⟩ := ob_op22 (deep := deep) (cStr := cStr) (oOpen := oOpen) (te := te) (xArg := xArg) (ySeen := ySeen) (yArg := yArg) (yGiven := yGiven) (a := a) (bb := bb) (B := B) (w := w) R hm hw
    refine ⟨u2, v2, hS, fun post hp => br_t (by decide) (br_t (by decide) (br_t (by decide) (br_f (by decide) (hX post hp)))), fun post hp => ?_⟩
    exact hY post hp
  · obtain ⟨x, hx, rfl⟩ := hA _ rfl
    obtain ⟨u2, v2, hS, hX, hY⟩ := ob_op23 (deep := deep) (cStr := cStr) (oOpen := oOpen) (te := te) (xArg := xArg) (ySeen := ySeen) (yArg := yArg) (yGiven := yGiven) (bb := bb) (B := B) (w := w) R hm hw hx
    refine ⟨u2, v2, hS, fun post hp => br_t (by decide) (br_t (by decide) (br_t (by decide) (br_f (by decide) (hX post hp)))), fun post hp => ?_⟩
    exact hY post hp
  · obtain ⟨x, hx, rfl⟩ := hA _ rfl
    obtain ⟨u2, v2, hS, hX, hY⟩ := ob_op24 (deep := deep) (cStr := cStr) (oOpen := oOpen) (te := te) (xArg := xArg) (ySeen := ySeen) (yArg := yArg) (yGiven := yGiven) (bb := bb) (B := B) (w := w) R hm hw hx
    refine ⟨u2, v2, hS, fun post hp => br_t (by decide) (br_t (by decide) (br_t (by decide) (br_f (by decide) (hX post hp)))), fun post hp => ?_⟩
    exact hY post hp
  · obtain ⟨u2, v2, hS, hX, hY⟩ := ob_opN (deep := deep) (cStr := cStr) (oOpen := oOpen) (te := te) (xArg := xArg) (ySeen := ySeen) (yArg := yArg) (yGiven := yGiven) (q := nI 25) (a := a) (B := B) (w := w) R hm hw (Or.inl rfl)
    refine ⟨u2, v2, hS, fun post hp => br_t (by decide) (br_t (by decide) (br_t (by decide) (br_t (by decide) (br_f (by decide) (hX post hp))))), fun post hp => ?_⟩
    unfold wpY_act; refine nm_r (nI_pred e) (br_f (by decide) (br_f (by decide) (br_f (by decide) (br_f (by decide) (br_f (by decide) (br_f (by decide) (?_)))))))
    unfold wY_act_49; refine br_f (by decide) ?_; unfold wY_act_65; refine br_f (by decide) (br_t (by decide) ?_)
    exact hY _ hp
  · obtain ⟨u2, v2, hS, hX, hY⟩ := ob_opN (deep := deep) (cStr := cStr) (oOpen := oOpen) (te := te) (xArg := xArg) (ySeen := ySeen) (yArg := yArg) (yGiven := yGiven) (q := nI 26) (a := a) (B := B) (w := w) R hm hw (Or.inr (Or.inl rfl))
    refine ⟨u2, v2, hS, fun post hp => br_t (by decide) (br_t (by decide) (br_t (by decide) (br_t (by decide) (br_f (by decide) (hX post hp))))), fun post hp => ?_⟩
    unfold wpY_act; refine nm_r (nI_pred e) (br_f (by decide) (br_f (by decide) (br_f (by decide) (br_f (by decide) (br_f (by decide) (br_f (by decide) (?_)))))))
    unfold wY_act_49; refine br_f (by decide) ?_; unfold wY_act_65; refine br_f (by decide) (br_t (by decide) ?_)
    exact hY _ hp
  · obtain ⟨u2, v2, hS, hX, hY⟩ := ob_opN (deep := deep) (cStr := cStr) (oOpen := oOpen) (te := te) (xArg := xArg) (ySeen := ySeen) (yArg := yArg) (yGiven := yGiven) (q := nI 27) (a := a) (B := B) (w := w) R hm hw (Or.inr (Or.inr rfl))
    refine ⟨u2, v2, hS, fun post hp => br_t (by decide) (br_t (by decide) (br_t (by decide) (br_t (by decide) (br_f (by decide) (hX post hp))))), fun post hp => ?_⟩
    unfold wpY_act; refine nm_r (nI_pred e) (br_f (by decide) (br_f (by decide) (br_f (by decide) (br_f (by decide) (br_f (by decide) (br_f (by decide) (?_)))))))
    unfold wY_act_49; refine br_f (by decide) ?_; unfold wY_act_65; refine br_f (by decide) (br_t (by decide) ?_)
    exact hY _ hp
  · obtain ⟨u2, v2, hS, hX, hY⟩ := ob_op28 (deep := deep) (cStr := cStr) (oOpen := oOpen) (te := te) (xArg := xArg) (ySeen := ySeen) (yArg := yArg) (yGiven := yGiven) (a := a) (B := B) (w := w) R hm hw
    refine ⟨u2, v2, hS, fun post hp => br_t (by decide) (br_t (by decide) (br_t (by decide) (br_t (by decide) (br_t (by decide) (hX post hp))))), fun post hp => ?_⟩
    unfold wpY_act; refine nm_r (nI_pred e) (br_f (by decide) (br_f (by decide) (br_f (by decide) (br_f (by decide) (br_f (by decide) (br_f (by decide) (?_)))))))
    unfold wY_act_49; refine br_f (by decide) ?_; unfold wY_act_65; refine br_f (by decide) (br_t (by decide) ?_)
    exact hY _ hp
  · obtain ⟨u2, v2, hS, hX, hY⟩ := ob_op29 (deep := deep) (cStr := cStr) (oOpen := oOpen) (te := te) (xArg := xArg) (ySeen := ySeen) (yArg := yArg) (yGiven := yGiven) (a := a) (B := B) (w := w) R hm hB hw
    refine ⟨u2, v2, hS, fun post hp => br_t (by decide) (br_t (by decide) (br_t (by decide) (br_t (by decide) (br_t (by decide) (hX post hp))))), fun post hp => ?_⟩
    unfold wpY_act; refine nm_r (nI_pred e) (br_f (by decide) (br_f (by decide) (br_f (by decide) (br_f (by decide) (br_f (by decide) (br_f (by decide) (?_)))))))
    unfold wY_act_49; refine br_f (by decide) ?_; unfold wY_act_65; refine br_f (by decide) (br_t (by decide) ?_)
    exact hY _ hp
  · obtain ⟨u2, v2, hS, hX, hY⟩ := ob_op30 (deep := deep) (cStr := cStr) (oOpen := oOpen) (te := te) (xArg := xArg) (ySeen := ySeen) (yArg := yArg) (yGiven := yGiven) (a := a) (B := B) (w := w) R hm hw
    refine ⟨u2, v2, hS, fun post hp => br_t (by decide) (br_t (by decide) (br_t (by decide) (br_t (by decide) (br_t (by decide) (hX post hp))))), fun post hp => ?_⟩
    unfold wpY_act; refine nm_r (nI_pred e) (br_f (by decide) (br_f (by decide) (br_f (by decide) (br_f (by decide) (br_f (by decide) (br_f (by decide) (?_)))))))
    unfold wY_act_49; refine br_f (by decide) ?_; unfold wY_act_65; refine br_f (by decide) (br_t (by decide) ?_)
    exact hY _ hp
  · obtain ⟨x, hx, rfl⟩ := hA _ rfl
    obtain ⟨u2, v2, hS, hX, hY⟩ := ob_op31 (deep := deep) (cStr := cStr) (oOpen := oOpen) (te := te) (xArg := xArg) (ySeen := ySeen) (yArg := yArg) (yGiven := yGiven) (B := B) (w := w) R hm hw hx
    refine ⟨u2, v2, hS, fun post hp => br_t (by decide) (br_t (by decide) (br_t (by decide) (br_t (by decide) (br_t (by decide) (hX post hp))))), fun post hp => ?_⟩
    unfold wpY_act; refine nm_r (nI_pred e) (br_f (by decide) (br_f (by decide) (br_f (by decide) (br_f (by decide) (br_f (by decide) (br_f (by decide) (?_)))))))
    unfold wY_act_49; refine br_f (by decide) ?_; unfold wY_act_65; refine br_f (by decide) (br_t (by decide) ?_)
    exact hY _ hp
end
