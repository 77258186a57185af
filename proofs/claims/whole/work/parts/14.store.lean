/-! ===== a property is stored: storeProperty and apply ===== -/
/-- what is said of an attribute is the same on both sides -/
def ob_po (sW sE sC oW oE oC pW pE pC : Bool) : Prop := (sW = true → pW = oW) ∧ (sE = true → pE = oE) ∧ (sC = true → pC = oC)
theorem ob_po1 {s p q : Bool} (h : s = true → p = q) (x : Bool) : (if s = true then p else x) = if s = true then q else x := by
  cases s
  · rfl
  · exact h rfl
theorem ob_po2 {s p q : Bool} (h : s = true → p = q) : (s && p) = (s && q) := by
  cases s
  · rfl
  · exact h rfl
theorem ob_po3 {s p q e : Bool} (h : s = true → p = q) : (s && (p != e)) = (s && (q != e)) := by
  cases s
  · rfl
  · rw [h rfl]
section
variable {n : Nat} {d : Nat} {b : Nat} {m : Nat} {deep : Int32} {res : Int64} {thr : Int32} {thn : Int64} {CL : Nat → Nat} {cStr : Nat → Int32} {cOp : Nat → Int32} {cA : Nat → Int32} {cB : Nat → Int32} {OK : Nat → Nat} {oKin : Nat → Int32} {oOpen : Nat → Int32} {pVal : Nat → Int64} {aOut : Nat → Int32} {aVar : Nat → Int64} {FC : Nat → Nat} {FA : Nat → Nat} {FP : Nat → Nat} {FH : Nat → Nat} {FT : Nat → Nat} {fSelf : Nat → Int64} {stk : Nat → Int64} {TA : Nat → Nat} {TH : Nat → Nat} {xFc : Nat → Int32} {xFs : Nat → Int32} {xPc : Nat → Int32} {xKo : Nat → Int32} {xPk : Nat → Int32} {tw : Nat → Bool} {te : Nat → Bool} {tc : Nat → Bool} {xSet : Nat → Int64} {S : Nat → Nat} {XH : Nat → Nat} {xHeld : Nat → Int64} {xArg : Nat → Int64} {yCo : Nat → Int32} {yAr : Nat → Int32} {M : Nat → Nat} {yPair : Nat → Int32} {ySeen : Nat → Int32} {ySet : Nat → Int64} {yStay : Nat → Int32} {yArg : Nat → Int64} {yHan : Nat → Int32} {yKept : Nat → Int64} {yGiven : Int32}
variable {o k i : Nat} {sV sG sS sW sE sC oW oE oC pW pE pC : Bool} {v w : Int64}
/-- the value that a store leaves -/
def ob_nv (says cv : Bool) (v old : Int64) : Int64 := if says then v else if cv then 8589934592 else old
theorem ob_st176 (hi : i < 1024) (post : SX → Prop)
    (hp : post (nI n, nI d, nI b, deep, res, thr, thn, (fun zz => nI (CL zz)), cStr, cOp, cA, cB, (fun zz => nI (OK zz)), oKin, oOpen, xFc, xFs, xPc, xKo, xPk, (fun zz => ob_xa ((ob_ub tw i (if sW then oW else tw i)) zz) ((ob_ub te i (if sE then oE else te i)) zz) ((ob_ub tc i (if sC then oC else tc i)) zz)), pVal, xSet, (fun zz => nI (S zz)), aOut, aVar, (fun zz => nI (FC zz)), (fun zz => nI (FP zz)), (fun zz => nI (FA zz)), (fun zz => nI (FH zz)), (fun zz => nI (XH zz)), (fun zz => nI (FT zz)), fSelf, xHeld, stk, (fun zz => nI (TA zz)), (fun zz => nI (TH zz)), xArg)) :
    wX_storeProperty_176 post (ob_xs sV sG sS sW sE sC oW oE oC) (nI i) (nI n) (nI d) (nI b) deep res thr thn (fun zz => nI (CL zz)) cStr cOp cA cB (fun zz => nI (OK zz)) oKin oOpen xFc xFs xPc xKo xPk (fun zz => ob_xa (tw zz) (te zz) (tc zz)) pVal xSet (fun zz => nI (S zz)) aOut aVar (fun zz => nI (FC zz)) (fun zz => nI (FP zz)) (fun zz => nI (FA zz)) (fun zz => nI (FH zz)) (fun zz => nI (XH zz)) (fun zz => nI (FT zz)) fSelf xHeld stk (fun zz => nI (TA zz)) (fun zz => nI (TH zz)) xArg := by
  unfold wX_storeProperty_176
  simp (disch := first | omega | decide) only [ob_xch, ob_xon, ob_xnew, ob_uA, forall_eq, not_true, not_false_iff, false_implies, true_implies, true_and, and_true, ob_sub1, Nat.add_sub_cancel, nI_1, ob_ix, ob_iy, ob_ix24, ob_iy24, ob_ix10, ob_iy10, ob_ix4, ob_iy4, ob_ix3, ob_iy3, ob_s1, ob_s2, ob_s3, ob_s4, ob_ltl, ob_lel, ob_eql, ob_ltr, ob_ler, ob_uN, Nat.add_one_ne_zero, ob_xs3, ob_lnn, ob_ltn, ob_eqn, Nat.not_lt_zero, Nat.zero_le, Nat.reduceEqDiff, Nat.reduceLeDiff, Nat.reduceLT, ob_eqll, Int32.reduceLT, Int32.reduceLE, eq_self_iff_true]
  exact hp
theorem ob_st159 (hi : i < 1024) (post : SX → Prop)
    (hp : post (nI n, nI d, nI b, deep, res, thr, thn, (fun zz => nI (CL zz)), cStr, cOp, cA, cB, (fun zz => nI (OK zz)), oKin, oOpen, xFc, xFs, xPc, xKo, xPk, (fun zz => ob_xa ((ob_ub tw i (if sW then oW else tw i)) zz) ((ob_ub te i (if sE then oE else te i)) zz) ((ob_ub tc i (if sC then oC else tc i)) zz)), pVal, (vp_updL xSet i (ob_nv sS false w (xSet i))), (fun zz => nI (S zz)), aOut, aVar, (fun zz => nI (FC zz)), (fun zz => nI (FP zz)), (fun zz => nI (FA zz)), (fun zz => nI (FH zz)), (fun zz => nI (XH zz)), (fun zz => nI (FT zz)), fSelf, xHeld, stk, (fun zz => nI (TA zz)), (fun zz => nI (TH zz)), xArg)) :
    wX_storeProperty_159 post (ob_xs sV sG sS sW sE sC oW oE oC) w (nI i) (nI n) (nI d) (nI b) deep res thr thn (fun zz => nI (CL zz)) cStr cOp cA cB (fun zz => nI (OK zz)) oKin oOpen xFc xFs xPc xKo xPk (fun zz => ob_xa (tw zz) (te zz) (tc zz)) pVal xSet (fun zz => nI (S zz)) aOut aVar (fun zz => nI (FC zz)) (fun zz => nI (FP zz)) (fun zz => nI (FA zz)) (fun zz => nI (FH zz)) (fun zz => nI (XH zz)) (fun zz => nI (FT zz)) fSelf xHeld stk (fun zz => nI (TA zz)) (fun zz => nI (TH zz)) xArg := by
  unfold wX_storeProperty_159
  cases sS
  · rw [show ob_nv false false w (xSet i) = xSet i from rfl, ob_uiL rfl] at hp
    exact br_t ((ob_xsS _ _ _ _ _ _ _ _ _).mpr rfl) (ob_st176 hi post hp)
  · refine br_f (fun z => absurd ((ob_xsS _ _ _ _ _ _ _ _ _).mp z) (by decide)) ?_
    simp (disch := first | omega | decide) only [forall_eq, not_true, not_false_iff, false_implies, true_implies, true_and, and_true, ob_sub1, Nat.add_sub_cancel, nI_1, ob_ix, ob_iy, ob_ix24, ob_iy24, ob_ix10, ob_iy10, ob_ix4, ob_iy4, ob_ix3, ob_iy3, ob_s1, ob_s2, ob_s3, ob_s4, ob_ltl, ob_lel, ob_eql, ob_ltr, ob_ler, ob_uN, Nat.add_one_ne_zero, ob_xs3, ob_lnn, ob_ltn, ob_eqn, Nat.not_lt_zero, Nat.zero_le, Nat.reduceEqDiff, Nat.reduceLeDiff, Nat.reduceLT, ob_eqll, Int32.reduceLT, Int32.reduceLE, eq_self_iff_true]
    exact ob_st176 hi post hp
theorem ob_st142 (hi : i < 1024) (post : SX → Prop)
    (hp : post (nI n, nI d, nI b, deep, res, thr, thn, (fun zz => nI (CL zz)), cStr, cOp, cA, cB, (fun zz => nI (OK zz)), oKin, oOpen, xFc, xFs, xPc, xKo, xPk, (fun zz => ob_xa ((ob_ub tw i (if sW then oW else tw i)) zz) ((ob_ub te i (if sE then oE else te i)) zz) ((ob_ub tc i (if sC then oC else tc i)) zz)), (vp_updL pVal i (ob_nv (sV || sG) false v (pVal i))), (vp_updL xSet i (ob_nv sS false w (xSet i))), (fun zz => nI (S zz)), aOut, aVar, (fun zz => nI (FC zz)), (fun zz => nI (FP zz)), (fun zz => nI (FA zz)), (fun zz => nI (FH zz)), (fun zz => nI (XH zz)), (fun zz => nI (FT zz)), fSelf, xHeld, stk, (fun zz => nI (TA zz)), (fun zz => nI (TH zz)), xArg)) :
    wX_storeProperty_142 post (ob_xs sV sG sS sW sE sC oW oE oC) v w (nI i) (nI n) (nI d) (nI b) deep res thr thn (fun zz => nI (CL zz)) cStr cOp cA cB (fun zz => nI (OK zz)) oKin oOpen xFc xFs xPc xKo xPk (fun zz => ob_xa (tw zz) (te zz) (tc zz)) pVal xSet (fun zz => nI (S zz)) aOut aVar (fun zz => nI (FC zz)) (fun zz => nI (FP zz)) (fun zz => nI (FA zz)) (fun zz => nI (FH zz)) (fun zz => nI (XH zz)) (fun zz => nI (FT zz)) fSelf xHeld stk (fun zz => nI (TA zz)) (fun zz => nI (TH zz)) xArg := by
  unfold wX_storeProperty_142
  by_cases z : (sV || sG) = false
  · rw [z, show ob_nv false false v (pVal i) = pVal i from rfl, ob_uiL rfl] at hp
    exact br_t ((ob_xsVG _ _ _ _ _ _ _ _ _).mpr (by simpa using z)) (ob_st159 hi post hp)
  · have z1 : (sV || sG) = true := eq_true_of_ne_false z
    rw [z1] at hp
    refine br_f (fun y => z (by simpa using (ob_xsVG _ _ _ _ _ _ _ _ _).mp y)) ?_
    simp (disch := first | omega | decide) only [forall_eq, not_true, not_false_iff, false_implies, true_implies, true_and, and_true, ob_sub1, Nat.add_sub_cancel, nI_1, ob_ix, ob_iy, ob_ix24, ob_iy24, ob_ix10, ob_iy10, ob_ix4, ob_iy4, ob_ix3, ob_iy3, ob_s1, ob_s2, ob_s3, ob_s4, ob_ltl, ob_lel, ob_eql, ob_ltr, ob_ler, ob_uN, Nat.add_one_ne_zero, ob_xs3, ob_lnn, ob_ltn, ob_eqn, Nat.not_lt_zero, Nat.zero_le, Nat.reduceEqDiff, Nat.reduceLeDiff, Nat.reduceLT, ob_eqll, Int32.reduceLT, Int32.reduceLE, eq_self_iff_true]
    exact ob_st159 hi post hp
/-- behind the order: was and kind are known -/
theorem ob_st94 {was kd : Int32} (hi : i < 1024) (cv : Bool) (hcv : cv = decide (kd ≠ was)) (hpk : xPk i = was) (post : SX → Prop)
    (hp : post (nI n, nI d, nI b, deep, res, thr, thn, (fun zz => nI (CL zz)), cStr, cOp, cA, cB, (fun zz => nI (OK zz)), oKin, oOpen, xFc, xFs, xPc, xKo, (upd xPk i kd), (fun zz => ob_xa ((ob_ub tw i (if sW then oW else if cv then false else tw i)) zz) ((ob_ub te i (if sE then oE else te i)) zz) ((ob_ub tc i (if sC then oC else tc i)) zz)), (vp_updL pVal i (ob_nv (sV || sG) cv v (pVal i))), (vp_updL xSet i (ob_nv sS cv w (xSet i))), (fun zz => nI (S zz)), aOut, aVar, (fun zz => nI (FC zz)), (fun zz => nI (FP zz)), (fun zz => nI (FA zz)), (fun zz => nI (FH zz)), (fun zz => nI (XH zz)), (fun zz => nI (FT zz)), fSelf, xHeld, stk, (fun zz => nI (TA zz)), (fun zz => nI (TH zz)), xArg)) :
    wX_storeProperty_94 post (ob_xs sV sG sS sW sE sC oW oE oC) v w (nI i) was kd (nI n) (nI d) (nI b) deep res thr thn (fun zz => nI (CL zz)) cStr cOp cA cB (fun zz => nI (OK zz)) oKin oOpen xFc xFs xPc xKo xPk (fun zz => ob_xa (tw zz) (te zz) (tc zz)) pVal xSet (fun zz => nI (S zz)) aOut aVar (fun zz => nI (FC zz)) (fun zz => nI (FP zz)) (fun zz => nI (FA zz)) (fun zz => nI (FH zz)) (fun zz => nI (XH zz)) (fun zz => nI (FT zz)) fSelf xHeld stk (fun zz => nI (TA zz)) (fun zz => nI (TH zz)) xArg := by
  unfold wX_storeProperty_94
  by_cases z : kd = was
  · have hc : cv = false := by rw [hcv]; simp [z]
    subst hc
    rw [ob_ui (hpk.trans z.symm)] at hp
    exact br_t z (ob_st142 hi post hp)
  · have hc : cv = true := by rw [hcv]; simp [z]
    subst hc
    refine br_f z ?_
    simp (disch := first | omega | decide) only [ob_xaN, ob_uA, ob_ub_i, forall_eq, not_true, not_false_iff, false_implies, true_implies, true_and, and_true, ob_sub1, Nat.add_sub_cancel, nI_1, ob_ix, ob_iy, ob_ix24, ob_iy24, ob_ix10, ob_iy10, ob_ix4, ob_iy4, ob_ix3, ob_iy3, ob_s1, ob_s2, ob_s3, ob_s4, ob_ltl, ob_lel, ob_eql, ob_ltr, ob_ler, ob_uN, Nat.add_one_ne_zero, ob_xs3, ob_lnn, ob_ltn, ob_eqn, Nat.not_lt_zero, Nat.zero_le, Nat.reduceEqDiff, Nat.reduceLeDiff, Nat.reduceLT, ob_eqll, Int32.reduceLT, Int32.reduceLE, eq_self_iff_true]
    refine ob_st142 hi post ?_
    have e1 : vp_updL (vp_updL pVal i 8589934592) i (ob_nv (sV || sG) false v (vp_updL pVal i 8589934592 i)) = vp_updL pVal i (ob_nv (sV || sG) true v (pVal i)) := by
      rw [ob_uuL, pk_uLs]; unfold ob_nv; cases (sV || sG) <;> rfl
    have e2 : vp_updL (vp_updL xSet i 8589934592) i (ob_nv sS false w (vp_updL xSet i 8589934592 i)) = vp_updL xSet i (ob_nv sS true w (xSet i)) := by
      rw [ob_uuL, pk_uLs]; unfold ob_nv; cases sS <;> rfl
    rw [e1, e2, ob_ub_u, ob_ub_s]
    exact hp
/-- the reference: flags, value, setter -/
theorem ob_ap152 (hi : i < 1024) (post : SY → Prop) (hp : post (nI n, nI m, yGiven, nI d, deep, nI b, thr, thn, res, cStr, (fun zz => nI (CL zz)), cOp, cA, cB, (fun zz => nI (OK zz)), oKin, yCo, yAr, oOpen, (fun zz => nI (M zz)), (fun zz => ob_yf (tw zz) (te zz) (tc zz)), yPair, ySeen, pVal, (vp_updL ySet i (ob_nv sS false w (ySet i))), (fun zz => ob_th (S zz)), yStay, aOut, aVar, yArg, (fun zz => nI (FC zz)), (fun zz => nI (FA zz)), (fun zz => nI (FP zz)), (fun zz => nI (FH zz)), yHan, (fun zz => nI (FT zz)), (fun zz => nI (TA zz)), (fun zz => nI (TH zz)), fSelf, yKept, stk)) :
    wY_apply_152 post (nI i) (ob_ys sV sG sS sW sE sC) w (nI n) (nI m) yGiven (nI d) deep (nI b) thr thn res cStr (fun zz => nI (CL zz)) cOp cA cB (fun zz => nI (OK zz)) oKin yCo yAr oOpen (fun zz => nI (M zz)) (fun zz => ob_yf (tw zz) (te zz) (tc zz)) yPair ySeen pVal ySet (fun zz => ob_th (S zz)) yStay aOut aVar yArg (fun zz => nI (FC zz)) (fun zz => nI (FA zz)) (fun zz => nI (FP zz)) (fun zz => nI (FH zz)) yHan (fun zz => nI (FT zz)) (fun zz => nI (TA zz)) (fun zz => nI (TH zz)) fSelf yKept stk := by
  unfold wY_apply_152
  cases sS
  · rw [show ob_nv false false w (ySet i) = ySet i from rfl, ob_uiL rfl] at hp
    exact br_t ((ob_ysS _ _ _ _ _ _).mpr rfl) hp
  · refine br_f (fun z => absurd ((ob_ysS _ _ _ _ _ _).mp z) (by decide)) ?_
    simp (disch := first | omega | decide) only [forall_eq, not_true, not_false_iff, false_implies, true_implies, true_and, and_true, ob_sub1, Nat.add_sub_cancel, nI_1, ob_ix, ob_iy, ob_ix24, ob_iy24, ob_ix10, ob_iy10, ob_ix4, ob_iy4, ob_ix3, ob_iy3, ob_s1, ob_s2, ob_s3, ob_s4, ob_ltl, ob_lel, ob_eql, ob_ltr, ob_ler, ob_uN, Nat.add_one_ne_zero, ob_xs3, ob_lnn, ob_ltn, ob_eqn, Nat.not_lt_zero, Nat.zero_le, Nat.reduceEqDiff, Nat.reduceLeDiff, Nat.reduceLT, ob_eqll, Int32.reduceLT, Int32.reduceLE, eq_self_iff_true]
    exact hp
theorem ob_ap116 (hpo : ob_po sW sE sC oW oE oC pW pE pC) (hi : i < 1024) (post : SY → Prop)
    (hp : post (nI n, nI m, yGiven, nI d, deep, nI b, thr, thn, res, cStr, (fun zz => nI (CL zz)), cOp, cA, cB, (fun zz => nI (OK zz)), oKin, yCo, yAr, oOpen, (fun zz => nI (M zz)), (fun zz => ob_yf ((ob_ub tw i (if sW then oW else tw i)) zz) ((ob_ub te i (if sE then oE else te i)) zz) ((ob_ub tc i (if sC then oC else tc i)) zz)), yPair, ySeen, (vp_updL pVal i (ob_nv (sV || sG) false v (pVal i))), (vp_updL ySet i (ob_nv sS false w (ySet i))), (fun zz => ob_th (S zz)), yStay, aOut, aVar, yArg, (fun zz => nI (FC zz)), (fun zz => nI (FA zz)), (fun zz => nI (FP zz)), (fun zz => nI (FH zz)), yHan, (fun zz => nI (FT zz)), (fun zz => nI (TA zz)), (fun zz => nI (TH zz)), fSelf, yKept, stk)) :
    wY_apply_116 post (nI i) (ob_ys sV sG sS sW sE sC) (ob_yf pW pE pC) v w (ob_yf sW sE sC) (nI n) (nI m) yGiven (nI d) deep (nI b) thr thn res cStr (fun zz => nI (CL zz)) cOp cA cB (fun zz => nI (OK zz)) oKin yCo yAr oOpen (fun zz => nI (M zz)) (fun zz => ob_yf (tw zz) (te zz) (tc zz)) yPair ySeen pVal ySet (fun zz => ob_th (S zz)) yStay aOut aVar yArg (fun zz => nI (FC zz)) (fun zz => nI (FA zz)) (fun zz => nI (FP zz)) (fun zz => nI (FH zz)) yHan (fun zz => nI (FT zz)) (fun zz => nI (TA zz)) (fun zz => nI (TH zz)) fSelf yKept stk := by
  unfold wY_apply_116
  simp (disch := first | omega | decide) only [ob_ynew, ob_po1 hpo.1, ob_po1 hpo.2.1, ob_po1 hpo.2.2, ob_uF, forall_eq, not_true, not_false_iff, false_implies, true_implies, true_and, and_true, ob_sub1, Nat.add_sub_cancel, nI_1, ob_ix, ob_iy, ob_ix24, ob_iy24, ob_ix10, ob_iy10, ob_ix4, ob_iy4, ob_ix3, ob_iy3, ob_s1, ob_s2, ob_s3, ob_s4, ob_ltl, ob_lel, ob_eql, ob_ltr, ob_ler, ob_uN, Nat.add_one_ne_zero, ob_xs3, ob_lnn, ob_ltn, ob_eqn, Nat.not_lt_zero, Nat.zero_le, Nat.reduceEqDiff, Nat.reduceLeDiff, Nat.reduceLT, ob_eqll, Int32.reduceLT, Int32.reduceLE, eq_self_iff_true]
  by_cases z : (sV || sG) = false
  · rw [z, show ob_nv false false v (pVal i) = pVal i from rfl, ob_uiL rfl] at hp
    exact br_t ((ob_ysVG _ _ _ _ _ _).mpr (by simpa using z)) (ob_ap152 hi post hp)
  · have z1 : (sV || sG) = true := eq_true_of_ne_false z
    rw [z1] at hp
    refine br_f (fun y => z (by simpa using (ob_ysVG _ _ _ _ _ _).mp y)) ?_
    exact ob_ap152 hi post hp
/-- the reference: data becomes a pair, or a pair data -/
theorem ob_ap79 {x : Int32} (hpo : ob_po sW sE sC oW oE oC pW pE pC) (hi : i < 1024) (hx : vp_nar .boolean x = x) (post : SY → Prop)
    (hp : post (nI n, nI m, yGiven, nI d, deep, nI b, thr, thn, res, cStr, (fun zz => nI (CL zz)), cOp, cA, cB, (fun zz => nI (OK zz)), oKin, yCo, yAr, oOpen, (fun zz => nI (M zz)), (fun zz => ob_yf ((ob_ub tw i (if sW then oW else false)) zz) ((ob_ub te i (if sE then oE else te i)) zz) ((ob_ub tc i (if sC then oC else tc i)) zz)), (upd yPair i x), ySeen, (vp_updL pVal i (ob_nv (sV || sG) true v (pVal i))), (vp_updL ySet i (ob_nv sS true w (ySet i))), (fun zz => ob_th (S zz)), yStay, aOut, aVar, yArg, (fun zz => nI (FC zz)), (fun zz => nI (FA zz)), (fun zz => nI (FP zz)), (fun zz => nI (FH zz)), yHan, (fun zz => nI (FT zz)), (fun zz => nI (TA zz)), (fun zz => nI (TH zz)), fSelf, yKept, stk)) :
    wY_apply_79 post (nI i) (ob_ys sV sG sS sW sE sC) (ob_yf pW pE pC) v w x (ob_yf sW sE sC) (nI n) (nI m) yGiven (nI d) deep (nI b) thr thn res cStr (fun zz => nI (CL zz)) cOp cA cB (fun zz => nI (OK zz)) oKin yCo yAr oOpen (fun zz => nI (M zz)) (fun zz => ob_yf (tw zz) (te zz) (tc zz)) yPair ySeen pVal ySet (fun zz => ob_th (S zz)) yStay aOut aVar yArg (fun zz => nI (FC zz)) (fun zz => nI (FA zz)) (fun zz => nI (FP zz)) (fun zz => nI (FH zz)) yHan (fun zz => nI (FT zz)) (fun zz => nI (TA zz)) (fun zz => nI (TH zz)) fSelf yKept stk := by
  unfold wY_apply_79
  simp (disch := first | omega | decide) only [ob_yfN, ob_uF, ob_ub_i, hx, forall_eq, not_true, not_false_iff, false_implies, true_implies, true_and, and_true, ob_sub1, Nat.add_sub_cancel, nI_1, ob_ix, ob_iy, ob_ix24, ob_iy24, ob_ix10, ob_iy10, ob_ix4, ob_iy4, ob_ix3, ob_iy3, ob_s1, ob_s2, ob_s3, ob_s4, ob_ltl, ob_lel, ob_eql, ob_ltr, ob_ler, ob_uN, Nat.add_one_ne_zero, ob_xs3, ob_lnn, ob_ltn, ob_eqn, Nat.not_lt_zero, Nat.zero_le, Nat.reduceEqDiff, Nat.reduceLeDiff, Nat.reduceLT, ob_eqll, Int32.reduceLT, Int32.reduceLE, eq_self_iff_true]
  refine ob_ap116 hpo hi post ?_
  have e1 : vp_updL (vp_updL pVal i 8589934592) i (ob_nv (sV || sG) false v (vp_updL pVal i 8589934592 i)) = vp_updL pVal i (ob_nv (sV || sG) true v (pVal i)) := by
    rw [ob_uuL, pk_uLs]; unfold ob_nv; cases (sV || sG) <;> rfl
  have e2 : vp_updL (vp_updL ySet i 8589934592) i (ob_nv sS false w (vp_updL ySet i 8589934592 i)) = vp_updL ySet i (ob_nv sS true w (ySet i)) := by
    rw [ob_uuL, pk_uLs]; unfold ob_nv; cases sS <;> rfl
  rw [e1, e2, ob_ub_u, ob_ub_s]
  exact hp
end
