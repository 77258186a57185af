/-! ===== a property is stored: both sides ===== -/
def ob_kd (D A : Bool) (z : Int32) : Int32 := if D then 1 else if A then 2 else z
def ob_01 (b : Bool) : Int32 := if b then 1 else 0
section
variable {n : Nat} {d : Nat} {b : Nat} {m : Nat} {deep : Int32} {res : Int64} {thr : Int32} {thn : Int64} {CL : Nat → Nat} {cStr : Nat → Int32} {cOp : Nat → Int32} {cA : Nat → Int32} {cB : Nat → Int32} {OK : Nat → Nat} {oKin : Nat → Int32} {oOpen : Nat → Int32} {pVal : Nat → Int64} {aOut : Nat → Int32} {aVar : Nat → Int64} {FC : Nat → Nat} {FA : Nat → Nat} {FP : Nat → Nat} {FH : Nat → Nat} {FT : Nat → Nat} {fSelf : Nat → Int64} {stk : Nat → Int64} {TA : Nat → Nat} {TH : Nat → Nat} {xFc : Nat → Int32} {xFs : Nat → Int32} {xPc : Nat → Int32} {xKo : Nat → Int32} {xPk : Nat → Int32} {tw : Nat → Bool} {te : Nat → Bool} {tc : Nat → Bool} {xSet : Nat → Int64} {S : Nat → Nat} {XH : Nat → Nat} {xHeld : Nat → Int64} {xArg : Nat → Int64} {yCo : Nat → Int32} {yAr : Nat → Int32} {M : Nat → Nat} {yPair : Nat → Int32} {ySeen : Nat → Int32} {ySet : Nat → Int64} {yStay : Nat → Int32} {yArg : Nat → Int64} {yHan : Nat → Int32} {yKept : Nat → Int64} {yGiven : Int32}
variable {o k i : Nat} {sV sG sS sW sE sC oW oE oC pW pE pC : Bool} {v w : Int64}
theorem ob_st28 {x1 x2 x8 was z0 : Int32} (post : SX → Prop) (h : wX_storeProperty_54 post x1 x2 (ob_xs sV sG sS sW sE sC oW oE oC) v w x8 was (ob_kd (sV || sW) (sG || sS) z0) (nI n) (nI d) (nI b) deep res thr thn (fun zz => nI (CL zz)) cStr cOp cA cB (fun zz => nI (OK zz)) oKin oOpen xFc xFs xPc xKo xPk (fun zz => ob_xa (tw zz) (te zz) (tc zz)) pVal xSet (fun zz => nI (S zz)) aOut aVar (fun zz => nI (FC zz)) (fun zz => nI (FP zz)) (fun zz => nI (FA zz)) (fun zz => nI (FH zz)) (fun zz => nI (XH zz)) (fun zz => nI (FT zz)) fSelf xHeld stk (fun zz => nI (TA zz)) (fun zz => nI (TH zz)) xArg) :
    wX_storeProperty_28 post x1 x2 (ob_xs sV sG sS sW sE sC oW oE oC) v w x8 was z0 (nI n) (nI d) (nI b) deep res thr thn (fun zz => nI (CL zz)) cStr cOp cA cB (fun zz => nI (OK zz)) oKin oOpen xFc xFs xPc xKo xPk (fun zz => ob_xa (tw zz) (te zz) (tc zz)) pVal xSet (fun zz => nI (S zz)) aOut aVar (fun zz => nI (FC zz)) (fun zz => nI (FP zz)) (fun zz => nI (FA zz)) (fun zz => nI (FH zz)) (fun zz => nI (XH zz)) (fun zz => nI (FT zz)) fSelf xHeld stk (fun zz => nI (TA zz)) (fun zz => nI (TH zz)) xArg := by
  unfold wX_storeProperty_28
  by_cases hD : (sV || sW) = true
  · rw [hD] at h
    refine br_f (fun z => ?_) h
    have := (ob_xsD _ _ _ _ _ _ _ _ _).mp z
    simp [this.1, this.2] at hD
  · have hD' : (sV || sW) = false := by simpa using hD
    rw [hD'] at h
    refine br_t ((ob_xsD _ _ _ _ _ _ _ _ _).mpr (by simpa using hD')) ?_
    by_cases hA : (sG || sS) = true
    · rw [hA] at h
      refine br_f (fun z => ?_) h
      have := (ob_xsA _ _ _ _ _ _ _ _ _).mp z
      simp [this.1, this.2] at hA
    · have hA' : (sG || sS) = false := by simpa using hA
      rw [hA'] at h
      exact br_t ((ob_xsA _ _ _ _ _ _ _ _ _).mpr (by simpa using hA')) h
theorem ob_ap25 {on : Int32} (post : SY → Prop) (h : wY_apply_25 post (nI i) (ob_ys sV sG sS sW sE sC) on v w (ob_01 (sV || sW)) (ob_01 (sG || sS)) (nI n) (nI m) yGiven (nI d) deep (nI b) thr thn res cStr (fun zz => nI (CL zz)) cOp cA cB (fun zz => nI (OK zz)) oKin yCo yAr oOpen (fun zz => nI (M zz)) (fun zz => ob_yf (tw zz) (te zz) (tc zz)) yPair ySeen pVal ySet (fun zz => ob_th (S zz)) yStay aOut aVar yArg (fun zz => nI (FC zz)) (fun zz => nI (FA zz)) (fun zz => nI (FP zz)) (fun zz => nI (FH zz)) yHan (fun zz => nI (FT zz)) (fun zz => nI (TA zz)) (fun zz => nI (TH zz)) fSelf yKept stk) :
    wpY_apply post (nI n, nI m, yGiven, nI d, deep, nI b, thr, thn, res, cStr, (fun zz => nI (CL zz)), cOp, cA, cB, (fun zz => nI (OK zz)), oKin, yCo, yAr, oOpen, (fun zz => nI (M zz)), (fun zz => ob_yf (tw zz) (te zz) (tc zz)), yPair, ySeen, pVal, ySet, (fun zz => ob_th (S zz)), yStay, aOut, aVar, yArg, (fun zz => nI (FC zz)), (fun zz => nI (FA zz)), (fun zz => nI (FP zz)), (fun zz => nI (FH zz)), yHan, (fun zz => nI (FT zz)), (fun zz => nI (TA zz)), (fun zz => nI (TH zz)), fSelf, yKept, stk) (nI i) (ob_ys sV sG sS sW sE sC) on v w := by
  unfold wpY_apply
  have h11 : ∀ z0 : Int32, wY_apply_25 post (nI i) (ob_ys sV sG sS sW sE sC) on v w z0 (ob_01 (sG || sS)) (nI n) (nI m) yGiven (nI d) deep (nI b) thr thn res cStr (fun zz => nI (CL zz)) cOp cA cB (fun zz => nI (OK zz)) oKin yCo yAr oOpen (fun zz => nI (M zz)) (fun zz => ob_yf (tw zz) (te zz) (tc zz)) yPair ySeen pVal ySet (fun zz => ob_th (S zz)) yStay aOut aVar yArg (fun zz => nI (FC zz)) (fun zz => nI (FA zz)) (fun zz => nI (FP zz)) (fun zz => nI (FH zz)) yHan (fun zz => nI (FT zz)) (fun zz => nI (TA zz)) (fun zz => nI (TH zz)) fSelf yKept stk → wY_apply_11 post (nI i) (ob_ys sV sG sS sW sE sC) on v w z0 (nI n) (nI m) yGiven (nI d) deep (nI b) thr thn res cStr (fun zz => nI (CL zz)) cOp cA cB (fun zz => nI (OK zz)) oKin yCo yAr oOpen (fun zz => nI (M zz)) (fun zz => ob_yf (tw zz) (te zz) (tc zz)) yPair ySeen pVal ySet (fun zz => ob_th (S zz)) yStay aOut aVar yArg (fun zz => nI (FC zz)) (fun zz => nI (FA zz)) (fun zz => nI (FP zz)) (fun zz => nI (FH zz)) yHan (fun zz => nI (FT zz)) (fun zz => nI (TA zz)) (fun zz => nI (TH zz)) fSelf yKept stk := by
    intro z0 h
    unfold wY_apply_11
    by_cases hA : (sG || sS) = true
    · rw [hA] at h
      refine br_f (fun z => ?_) h
      have := (ob_ysA _ _ _ _ _ _).mp z
      simp [this.1, this.2] at hA
    · have hA' : (sG || sS) = false := by simpa using hA
      rw [hA'] at h
      exact br_t ((ob_ysA _ _ _ _ _ _).mpr (by simpa using hA')) h
  by_cases hD : (sV || sW) = true
  · rw [hD] at h
    refine br_f (fun z => ?_) (h11 1 h)
    have := (ob_ysD _ _ _ _ _ _).mp z
    simp [this.1, this.2] at hD
  · have hD' : (sV || sW) = false := by simpa using hD
    rw [hD'] at h
    exact br_t ((ob_ysD _ _ _ _ _ _).mpr (by simpa using hD')) (h11 0 h)
/-- the component stores at a slot that is there -/
theorem ob_stX (ho : o < 32) (hk : k < 32) (hpk : ¬ xPk (32 * o + k) = 0) (cv : Bool) (hcv : cv = decide (ob_kd (sV || sW) (sG || sS) (xPk (32 * o + k)) ≠ xPk (32 * o + k))) (post : SX → Prop)
    (hp : post (nI n, nI d, nI b, deep, res, thr, thn, (fun zz => nI (CL zz)), cStr, cOp, cA, cB, (fun zz => nI (OK zz)), oKin, oOpen, xFc, xFs, xPc, xKo, (upd xPk (32 * o + k) (ob_kd (sV || sW) (sG || sS) (xPk (32 * o + k)))), (fun zz => ob_xa ((ob_ub tw (32 * o + k) (if sW then oW else if cv then false else tw (32 * o + k))) zz) ((ob_ub te (32 * o + k) (if sE then oE else te (32 * o + k))) zz) ((ob_ub tc (32 * o + k) (if sC then oC else tc (32 * o + k))) zz)), (vp_updL pVal (32 * o + k) (ob_nv (sV || sG) cv v (pVal (32 * o + k)))), (vp_updL xSet (32 * o + k) (ob_nv sS cv w (xSet (32 * o + k)))), (fun zz => nI (S zz)), aOut, aVar, (fun zz => nI (FC zz)), (fun zz => nI (FP zz)), (fun zz => nI (FA zz)), (fun zz => nI (FH zz)), (fun zz => nI (XH zz)), (fun zz => nI (FT zz)), fSelf, xHeld, stk, (fun zz => nI (TA zz)), (fun zz => nI (TH zz)), xArg)) :
    wpX_storeProperty post (nI n, nI d, nI b, deep, res, thr, thn, (fun zz => nI (CL zz)), cStr, cOp, cA, cB, (fun zz => nI (OK zz)), oKin, oOpen, xFc, xFs, xPc, xKo, xPk, (fun zz => ob_xa (tw zz) (te zz) (tc zz)), pVal, xSet, (fun zz => nI (S zz)), aOut, aVar, (fun zz => nI (FC zz)), (fun zz => nI (FP zz)), (fun zz => nI (FA zz)), (fun zz => nI (FH zz)), (fun zz => nI (XH zz)), (fun zz => nI (FT zz)), fSelf, xHeld, stk, (fun zz => nI (TA zz)), (fun zz => nI (TH zz)), xArg) (nI o) (nI k) (ob_xs sV sG sS sW sE sC oW oE oC) v w := by
  unfold wpX_storeProperty
  simp (disch := first | omega | decide) only [hpk, forall_eq, not_true, not_false_iff, false_implies, true_implies, true_and, and_true, ob_sub1, Nat.add_sub_cancel, nI_1, ob_ix, ob_iy, ob_ix24, ob_iy24, ob_ix10, ob_iy10, ob_ix4, ob_iy4, ob_ix3, ob_iy3, ob_s1, ob_s2, ob_s3, ob_s4, ob_ltl, ob_lel, ob_eql, ob_ltr, ob_ler, ob_uN, Nat.add_one_ne_zero, ob_xs3, ob_lnn, ob_ltn, ob_eqn, Nat.not_lt_zero, Nat.zero_le, Nat.reduceEqDiff, Nat.reduceLeDiff, Nat.reduceLT, ob_eqll, Int32.reduceLT, Int32.reduceLE, eq_self_iff_true]
  refine ob_st28 post ?_
  unfold wX_storeProperty_54
  refine br_f hpk ?_
  exact ob_st94 (by omega) cv hcv rfl post hp
/-- the component stores a new property -/
theorem ob_stXn {c : Nat} (ho : o < 32) (hk : k < 32) (hpk : xPk (32 * o + k) = 0) (hc : c < 32) (hpc : xPc o = nI c) (post : SX → Prop)
    (hp : post (nI n, nI d, nI b, deep, res, thr, thn, (fun zz => nI (CL zz)), cStr, cOp, cA, cB, (fun zz => nI (OK zz)), oKin, oOpen, xFc, xFs, (upd xPc o (nI (c + 1))), (upd xKo (32 * o + c) (nI k)), (upd xPk (32 * o + k) (ob_kd (sV || sW) (sG || sS) 1)), (fun zz => ob_xa ((ob_ub tw (32 * o + k) (if sW then oW else false)) zz) ((ob_ub te (32 * o + k) (if sE then oE else false)) zz) ((ob_ub tc (32 * o + k) (if sC then oC else false)) zz)), (vp_updL pVal (32 * o + k) (ob_nv (sV || sG) true v (pVal (32 * o + k)))), (vp_updL xSet (32 * o + k) (ob_nv sS true w (xSet (32 * o + k)))), (fun zz => nI (S zz)), aOut, aVar, (fun zz => nI (FC zz)), (fun zz => nI (FP zz)), (fun zz => nI (FA zz)), (fun zz => nI (FH zz)), (fun zz => nI (XH zz)), (fun zz => nI (FT zz)), fSelf, xHeld, stk, (fun zz => nI (TA zz)), (fun zz => nI (TH zz)), xArg)) :
    wpX_storeProperty post (nI n, nI d, nI b, deep, res, thr, thn, (fun zz => nI (CL zz)), cStr, cOp, cA, cB, (fun zz => nI (OK zz)), oKin, oOpen, xFc, xFs, xPc, xKo, xPk, (fun zz => ob_xa (tw zz) (te zz) (tc zz)), pVal, xSet, (fun zz => nI (S zz)), aOut, aVar, (fun zz => nI (FC zz)), (fun zz => nI (FP zz)), (fun zz => nI (FA zz)), (fun zz => nI (FH zz)), (fun zz => nI (XH zz)), (fun zz => nI (FT zz)), fSelf, xHeld, stk, (fun zz => nI (TA zz)), (fun zz => nI (TH zz)), xArg) (nI o) (nI k) (ob_xs sV sG sS sW sE sC oW oE oC) v w := by
  unfold wpX_storeProperty
  simp (disch := first | omega | decide) only [hpk, forall_eq, not_true, not_false_iff, false_implies, true_implies, true_and, and_true, ob_sub1, Nat.add_sub_cancel, nI_1, ob_ix, ob_iy, ob_ix24, ob_iy24, ob_ix10, ob_iy10, ob_ix4, ob_iy4, ob_ix3, ob_iy3, ob_s1, ob_s2, ob_s3, ob_s4, ob_ltl, ob_lel, ob_eql, ob_ltr, ob_ler, ob_uN, Nat.add_one_ne_zero, ob_xs3, ob_lnn, ob_ltn, ob_eqn, Nat.not_lt_zero, Nat.zero_le, Nat.reduceEqDiff, Nat.reduceLeDiff, Nat.reduceLT, ob_eqll, Int32.reduceLT, Int32.reduceLE, eq_self_iff_true]
  refine ob_st28 post ?_
  unfold wX_storeProperty_54
  refine br_t rfl ?_
  simp (disch := first | omega | decide) only [hpc, ob_uA0, forall_eq, not_true, not_false_iff, false_implies, true_implies, true_and, and_true, ob_sub1, Nat.add_sub_cancel, nI_1, ob_ix, ob_iy, ob_ix24, ob_iy24, ob_ix10, ob_iy10, ob_ix4, ob_iy4, ob_ix3, ob_iy3, ob_s1, ob_s2, ob_s3, ob_s4, ob_ltl, ob_lel, ob_eql, ob_ltr, ob_ler, ob_uN, Nat.add_one_ne_zero, ob_xs3, ob_lnn, ob_ltn, ob_eqn, Nat.not_lt_zero, Nat.zero_le, Nat.reduceEqDiff, Nat.reduceLeDiff, Nat.reduceLT, ob_eqll, Int32.reduceLT, Int32.reduceLE, eq_self_iff_true]
  refine ob_st94 (by omega) true ?_ hpk post ?_
  · unfold ob_kd
    cases (sV || sW) <;> cases (sG || sS) <;> rfl
  · simp only [ob_ub_u, ob_ub_s]
    exact hp
/-- the reference stores at a slot that is there -/
theorem ob_apY (hpo : ob_po sW sE sC oW oE oC pW pE pC) (hi : i < 1024) (hm : M i < 2 ^ 31) (hM : M i ≠ 0) (hpr : yPair i = 0 ∨ yPair i = 1) (cv : Bool) (hcv : cv = ((sG || sS) && decide (yPair i = 0) || !(sG || sS) && (sV || sW) && decide (yPair i = 1))) (hDA : ((sV || sW) && (sG || sS)) = false) (post : SY → Prop)
    (hp : post (nI n, nI m, yGiven, nI d, deep, nI b, thr, thn, res, cStr, (fun zz => nI (CL zz)), cOp, cA, cB, (fun zz => nI (OK zz)), oKin, yCo, yAr, oOpen, (fun zz => nI (M zz)), (fun zz => ob_yf ((ob_ub tw i (if sW then oW else if cv then false else tw i)) zz) ((ob_ub te i (if sE then oE else te i)) zz) ((ob_ub tc i (if sC then oC else tc i)) zz)), (upd yPair i (if cv then ob_01 (sG || sS) else yPair i)), ySeen, (vp_updL pVal i (ob_nv (sV || sG) cv v (pVal i))), (vp_updL ySet i (ob_nv sS cv w (ySet i))), (fun zz => ob_th (S zz)), yStay, aOut, aVar, yArg, (fun zz => nI (FC zz)), (fun zz => nI (FA zz)), (fun zz => nI (FP zz)), (fun zz => nI (FH zz)), yHan, (fun zz => nI (FT zz)), (fun zz => nI (TA zz)), (fun zz => nI (TH zz)), fSelf, yKept, stk)) :
    wpY_apply post (nI n, nI m, yGiven, nI d, deep, nI b, thr, thn, res, cStr, (fun zz => nI (CL zz)), cOp, cA, cB, (fun zz => nI (OK zz)), oKin, yCo, yAr, oOpen, (fun zz => nI (M zz)), (fun zz => ob_yf (tw zz) (te zz) (tc zz)), yPair, ySeen, pVal, ySet, (fun zz => ob_th (S zz)), yStay, aOut, aVar, yArg, (fun zz => nI (FC zz)), (fun zz => nI (FA zz)), (fun zz => nI (FP zz)), (fun zz => nI (FH zz)), yHan, (fun zz => nI (FT zz)), (fun zz => nI (TA zz)), (fun zz => nI (TH zz)), fSelf, yKept, stk) (nI i) (ob_ys sV sG sS sW sE sC) (ob_yf pW pE pC) v w := by
  refine ob_ap25 post ?_
  unfold wY_apply_25
  simp (disch := first | omega | decide) only [hM, ob_yab, forall_eq, not_true, not_false_iff, false_implies, true_implies, true_and, and_true, ob_sub1, Nat.add_sub_cancel, nI_1, ob_ix, ob_iy, ob_ix24, ob_iy24, ob_ix10, ob_iy10, ob_ix4, ob_iy4, ob_ix3, ob_iy3, ob_s1, ob_s2, ob_s3, ob_s4, ob_ltl, ob_lel, ob_eql, ob_ltr, ob_ler, ob_uN, Nat.add_one_ne_zero, ob_xs3, ob_lnn, ob_ltn, ob_eqn, Nat.not_lt_zero, Nat.zero_le, Nat.reduceEqDiff, Nat.reduceLeDiff, Nat.reduceLT, ob_eqll, Int32.reduceLT, Int32.reduceLE, eq_self_iff_true]
  unfold wY_apply_51
  cases hA : (sG || sS)
  · rw [hA] at hcv hp
    refine br_t rfl ?_
    unfold wY_apply_65
    cases hD : (sV || sW)
    · rw [hD] at hcv
      have hc : cv = false := by rw [hcv]; simp
      subst hc
      rw [show (if false = true then ob_01 false else yPair i) = yPair i from rfl, ob_ui rfl] at hp
      exact br_t rfl (ob_ap116 hpo hi post hp)
    · rw [hD] at hcv
      refine br_f (by decide) ?_
      simp (disch := first | omega | decide) only [forall_eq, not_true, not_false_iff, false_implies, true_implies, true_and, and_true, ob_sub1, Nat.add_sub_cancel, nI_1, ob_ix, ob_iy, ob_ix24, ob_iy24, ob_ix10, ob_iy10, ob_ix4, ob_iy4, ob_ix3, ob_iy3, ob_s1, ob_s2, ob_s3, ob_s4, ob_ltl, ob_lel, ob_eql, ob_ltr, ob_ler, ob_uN, Nat.add_one_ne_zero, ob_xs3, ob_lnn, ob_ltn, ob_eqn, Nat.not_lt_zero, Nat.zero_le, Nat.reduceEqDiff, Nat.reduceLeDiff, Nat.reduceLT, ob_eqll, Int32.reduceLT, Int32.reduceLE, eq_self_iff_true]
      rcases hpr with h | h
      · have hc : cv = false := by simp [hcv, h]
        subst hc
        rw [show (if false = true then ob_01 false else yPair i) = yPair i from rfl, ob_ui rfl] at hp
        exact br_t h (ob_ap116 hpo hi post hp)
      · have hc : cv = true := by simp [hcv, h]
        subst hc
        exact br_f (by rw [h]; decide) (ob_ap79 hpo hi rfl post hp)
  · rw [hA] at hcv hp hDA
    refine br_f (by decide) ?_
    simp (disch := first | omega | decide) only [forall_eq, not_true, not_false_iff, false_implies, true_implies, true_and, and_true, ob_sub1, Nat.add_sub_cancel, nI_1, ob_ix, ob_iy, ob_ix24, ob_iy24, ob_ix10, ob_iy10, ob_ix4, ob_iy4, ob_ix3, ob_iy3, ob_s1, ob_s2, ob_s3, ob_s4, ob_ltl, ob_lel, ob_eql, ob_ltr, ob_ler, ob_uN, Nat.add_one_ne_zero, ob_xs3, ob_lnn, ob_ltn, ob_eqn, Nat.not_lt_zero, Nat.zero_le, Nat.reduceEqDiff, Nat.reduceLeDiff, Nat.reduceLT, ob_eqll, Int32.reduceLT, Int32.reduceLE, eq_self_iff_true]
    rcases hpr with h | h
    · have hc : cv = true := by simp [hcv, h]
      subst hc
      exact br_t h (ob_ap79 hpo hi rfl post hp)
    · have hc : cv = false := by simp [hcv, h]
      subst hc
      refine br_f (by rw [h]; decide) ?_
      rw [show (if false = true then ob_01 true else yPair i) = yPair i from rfl, ob_ui rfl] at hp
      have hD : (sV || sW) = false := by simpa using hDA
      unfold wY_apply_65
      rw [hD]
      exact br_t rfl (ob_ap116 hpo hi post hp)
/-- the reference stores a new property -/
theorem ob_apYn (hpo : ob_po sW sE sC oW oE oC pW pE pC) (hi : i < 1024) (hM : M i = 0) (hDA : ((sV || sW) && (sG || sS)) = false) (post : SY → Prop)
    (hp : post (nI n, nI (m+1), yGiven, nI d, deep, nI b, thr, thn, res, cStr, (fun zz => nI (CL zz)), cOp, cA, cB, (fun zz => nI (OK zz)), oKin, yCo, yAr, oOpen, (fun zz => nI ((ob_um M i (m + 1)) zz)), (fun zz => ob_yf ((ob_ub tw i (if sW then oW else false)) zz) ((ob_ub te i (if sE then oE else false)) zz) ((ob_ub tc i (if sC then oC else false)) zz)), (upd yPair i (ob_01 (sG || sS))), ySeen, (vp_updL pVal i (ob_nv (sV || sG) true v (pVal i))), (vp_updL ySet i (ob_nv sS (sG || sS) w (ySet i))), (fun zz => ob_th (S zz)), yStay, aOut, aVar, yArg, (fun zz => nI (FC zz)), (fun zz => nI (FA zz)), (fun zz => nI (FP zz)), (fun zz => nI (FH zz)), yHan, (fun zz => nI (FT zz)), (fun zz => nI (TA zz)), (fun zz => nI (TH zz)), fSelf, yKept, stk)) :
    wpY_apply post (nI n, nI m, yGiven, nI d, deep, nI b, thr, thn, res, cStr, (fun zz => nI (CL zz)), cOp, cA, cB, (fun zz => nI (OK zz)), oKin, yCo, yAr, oOpen, (fun zz => nI (M zz)), (fun zz => ob_yf (tw zz) (te zz) (tc zz)), yPair, ySeen, pVal, ySet, (fun zz => ob_th (S zz)), yStay, aOut, aVar, yArg, (fun zz => nI (FC zz)), (fun zz => nI (FA zz)), (fun zz => nI (FP zz)), (fun zz => nI (FH zz)), yHan, (fun zz => nI (FT zz)), (fun zz => nI (TA zz)), (fun zz => nI (TH zz)), fSelf, yKept, stk) (nI i) (ob_ys sV sG sS sW sE sC) (ob_yf pW pE pC) v w := by
  have e1 : vp_updL (vp_updL pVal i 8589934592) i (ob_nv (sV || sG) false v (vp_updL pVal i 8589934592 i)) = vp_updL pVal i (ob_nv (sV || sG) true v (pVal i)) := by
    rw [ob_uuL, pk_uLs]; unfold ob_nv; cases (sV || sG) <;> rfl
  have e3 : vp_updL (vp_updL pVal i 8589934592) i (ob_nv (sV || sG) true v (vp_updL pVal i 8589934592 i)) = vp_updL pVal i (ob_nv (sV || sG) true v (pVal i)) := by
    rw [ob_uuL, pk_uLs]; unfold ob_nv; cases (sV || sG) <;> rfl
  refine ob_ap25 post ?_
  unfold wY_apply_25
  simp (disch := first | omega | decide) only [hM, ob_yab, forall_eq, not_true, not_false_iff, false_implies, true_implies, true_and, and_true, ob_sub1, Nat.add_sub_cancel, nI_1, ob_ix, ob_iy, ob_ix24, ob_iy24, ob_ix10, ob_iy10, ob_ix4, ob_iy4, ob_ix3, ob_iy3, ob_s1, ob_s2, ob_s3, ob_s4, ob_ltl, ob_lel, ob_eql, ob_ltr, ob_ler, ob_uN, Nat.add_one_ne_zero, ob_xs3, ob_lnn, ob_ltn, ob_eqn, Nat.not_lt_zero, Nat.zero_le, Nat.reduceEqDiff, Nat.reduceLeDiff, Nat.reduceLT, ob_eqll, Int32.reduceLT, Int32.reduceLE, eq_self_iff_true]
  unfold wpY_appear
  simp (disch := first | omega | decide) only [ob_nar0, ob_uF0, forall_eq, not_true, not_false_iff, false_implies, true_implies, true_and, and_true, ob_sub1, Nat.add_sub_cancel, nI_1, ob_ix, ob_iy, ob_ix24, ob_iy24, ob_ix10, ob_iy10, ob_ix4, ob_iy4, ob_ix3, ob_iy3, ob_s1, ob_s2, ob_s3, ob_s4, ob_ltl, ob_lel, ob_eql, ob_ltr, ob_ler, ob_uN, Nat.add_one_ne_zero, ob_xs3, ob_lnn, ob_ltn, ob_eqn, Nat.not_lt_zero, Nat.zero_le, Nat.reduceEqDiff, Nat.reduceLeDiff, Nat.reduceLT, ob_eqll, Int32.reduceLT, Int32.reduceLE, eq_self_iff_true]
  unfold wY_apply_51
  cases hA : (sG || sS)
  · have hS : sS = false := by
      cases sS
      · rfl
      · simp at hA
    subst hS
    rw [hA, show ob_01 false = 0 from rfl] at hp
    refine br_t rfl ?_
    have h116 : wY_apply_116 post (nI i) (ob_ys sV sG false sW sE sC) (ob_yf pW pE pC) v w (ob_yf sW sE sC) (nI n) (nI (m+1)) yGiven (nI d) deep (nI b) thr thn res cStr (fun zz => nI (CL zz)) cOp cA cB (fun zz => nI (OK zz)) oKin yCo yAr oOpen (fun zz => nI ((ob_um M i (m + 1)) zz)) (fun zz => ob_yf ((ob_ub tw i false) zz) ((ob_ub te i false) zz) ((ob_ub tc i false) zz)) (upd yPair i 0) ySeen (vp_updL pVal i 8589934592) ySet (fun zz => ob_th (S zz)) yStay aOut aVar yArg (fun zz => nI (FC zz)) (fun zz => nI (FA zz)) (fun zz => nI (FP zz)) (fun zz => nI (FH zz)) yHan (fun zz => nI (FT zz)) (fun zz => nI (TA zz)) (fun zz => nI (TH zz)) fSelf yKept stk := by
      refine ob_ap116 hpo hi post ?_
      simp only [e1, ob_ub_u, ob_ub_s]
      exact hp
    unfold wY_apply_65
    cases hD : (sV || sW)
    · exact br_t rfl h116
    · refine br_f (by decide) ?_
      simp (disch := first | omega | decide) only [pk_us, forall_eq, not_true, not_false_iff, false_implies, true_implies, true_and, and_true, ob_sub1, Nat.add_sub_cancel, nI_1, ob_ix, ob_iy, ob_ix24, ob_iy24, ob_ix10, ob_iy10, ob_ix4, ob_iy4, ob_ix3, ob_iy3, ob_s1, ob_s2, ob_s3, ob_s4, ob_ltl, ob_lel, ob_eql, ob_ltr, ob_ler, ob_uN, Nat.add_one_ne_zero, ob_xs3, ob_lnn, ob_ltn, ob_eqn, Nat.not_lt_zero, Nat.zero_le, Nat.reduceEqDiff, Nat.reduceLeDiff, Nat.reduceLT, ob_eqll, Int32.reduceLT, Int32.reduceLE, eq_self_iff_true]
      exact h116
  · rw [hA, show ob_01 true = 1 from rfl] at hp
    refine br_f (by decide) ?_
    simp (disch := first | omega | decide) only [pk_us, forall_eq, not_true, not_false_iff, false_implies, true_implies, true_and, and_true, ob_sub1, Nat.add_sub_cancel, nI_1, ob_ix, ob_iy, ob_ix24, ob_iy24, ob_ix10, ob_iy10, ob_ix4, ob_iy4, ob_ix3, ob_iy3, ob_s1, ob_s2, ob_s3, ob_s4, ob_ltl, ob_lel, ob_eql, ob_ltr, ob_ler, ob_uN, Nat.add_one_ne_zero, ob_xs3, ob_lnn, ob_ltn, ob_eqn, Nat.not_lt_zero, Nat.zero_le, Nat.reduceEqDiff, Nat.reduceLeDiff, Nat.reduceLT, ob_eqll, Int32.reduceLT, Int32.reduceLE, eq_self_iff_true]
    refine ob_ap79 (x := 1) hpo hi rfl post ?_
    simp only [e3, ob_uu, ob_ub_u, ob_ub_s]
    exact hp
end
