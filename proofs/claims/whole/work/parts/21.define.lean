/-! ===== DEFINE: the walks ===== -/
section
variable {n : Nat} {d : Nat} {b : Nat} {m : Nat} {deep : Int32} {res : Int64} {thr : Int32} {thn : Int64} {CL : Nat → Nat} {cStr : Nat → Int32} {cOp : Nat → Int32} {cA : Nat → Int32} {cB : Nat → Int32} {OK : Nat → Nat} {oKin : Nat → Int32} {oOpen : Nat → Int32} {pVal : Nat → Int64} {aOut : Nat → Int32} {aVar : Nat → Int64} {FC : Nat → Nat} {FA : Nat → Nat} {FP : Nat → Nat} {FH : Nat → Nat} {FT : Nat → Nat} {fSelf : Nat → Int64} {stk : Nat → Int64} {TA : Nat → Nat} {TH : Nat → Nat} {xFc : Nat → Int32} {xFs : Nat → Int32} {xPc : Nat → Int32} {xKo : Nat → Int32} {xPk : Nat → Int32} {tw : Nat → Bool} {te : Nat → Bool} {tc : Nat → Bool} {xSet : Nat → Int64} {S : Nat → Nat} {XH : Nat → Nat} {xHeld : Nat → Int64} {xArg : Nat → Int64} {yCo : Nat → Int32} {yAr : Nat → Int32} {M : Nat → Nat} {yPair : Nat → Int32} {ySeen : Nat → Int32} {ySet : Nat → Int64} {yStay : Nat → Int32} {yArg : Nat → Int64} {yHan : Nat → Int32} {yKept : Nat → Int64} {yGiven : Int32}
variable {o k i l : Nat} {sV sG sS sW sE sC oW oE oC pW pE pC : Bool} {v w wy : Int64}
/-- the component, where LENGTH is not set -/
theorem ob_dpXn (ho : o < 32) (hk : k < 32) (hOK : OK o ≤ 2) (hns : ¬ (OK o = 1 ∧ k = 16 ∧ sV = true)) (hl : OK o = 1 → l ≤ 16 ∧ pVal (32 * o + 16) = lN l) (post : Int32 → SX → Prop)
    (h1 : OK o = 1 → k < 16 → l ≤ k → tw (32 * o + 16) = false → post 0 (nI n, nI d, nI b, deep, res, thr, thn, (fun zz => nI (CL zz)), cStr, cOp, cA, cB, (fun zz => nI (OK zz)), oKin, oOpen, xFc, xFs, xPc, xKo, xPk, (fun zz => ob_xa (tw zz) (te zz) (tc zz)), pVal, xSet, (fun zz => nI (S zz)), aOut, aVar, (fun zz => nI (FC zz)), (fun zz => nI (FP zz)), (fun zz => nI (FA zz)), (fun zz => nI (FH zz)), (fun zz => nI (XH zz)), (fun zz => nI (FT zz)), fSelf, xHeld, stk, (fun zz => nI (TA zz)), (fun zz => nI (TH zz)), xArg))
    (h2 : OK o = 1 → k < 16 → l ≤ k → tw (32 * o + 16) = true → wX_defineProperty_125 post (nI o) (nI k) (ob_xs sV sG sS sW sE sC oW oE oC) v w 0 (nI (32 * o + 16)) 1 (nI n) (nI d) (nI b) deep res thr thn (fun zz => nI (CL zz)) cStr cOp cA cB (fun zz => nI (OK zz)) oKin oOpen xFc xFs xPc xKo xPk (fun zz => ob_xa (tw zz) (te zz) (tc zz)) pVal xSet (fun zz => nI (S zz)) aOut aVar (fun zz => nI (FC zz)) (fun zz => nI (FP zz)) (fun zz => nI (FA zz)) (fun zz => nI (FH zz)) (fun zz => nI (XH zz)) (fun zz => nI (FT zz)) fSelf xHeld stk (fun zz => nI (TA zz)) (fun zz => nI (TH zz)) xArg)
    (h3 : ¬ (OK o = 1 ∧ k < 16 ∧ l ≤ k) → wX_defineProperty_125 post (nI o) (nI k) (ob_xs sV sG sS sW sE sC oW oE oC) v w 0 (nI (32 * o + 16)) 0 (nI n) (nI d) (nI b) deep res thr thn (fun zz => nI (CL zz)) cStr cOp cA cB (fun zz => nI (OK zz)) oKin oOpen xFc xFs xPc xKo xPk (fun zz => ob_xa (tw zz) (te zz) (tc zz)) pVal xSet (fun zz => nI (S zz)) aOut aVar (fun zz => nI (FC zz)) (fun zz => nI (FP zz)) (fun zz => nI (FA zz)) (fun zz => nI (FH zz)) (fun zz => nI (XH zz)) (fun zz => nI (FT zz)) fSelf xHeld stk (fun zz => nI (TA zz)) (fun zz => nI (TH zz)) xArg) :
    wpX_defineProperty post (nI n, nI d, nI b, deep, res, thr, thn, (fun zz => nI (CL zz)), cStr, cOp, cA, cB, (fun zz => nI (OK zz)), oKin, oOpen, xFc, xFs, xPc, xKo, xPk, (fun zz => ob_xa (tw zz) (te zz) (tc zz)), pVal, xSet, (fun zz => nI (S zz)), aOut, aVar, (fun zz => nI (FC zz)), (fun zz => nI (FP zz)), (fun zz => nI (FA zz)), (fun zz => nI (FH zz)), (fun zz => nI (XH zz)), (fun zz => nI (FT zz)), fSelf, xHeld, stk, (fun zz => nI (TA zz)), (fun zz => nI (TH zz)), xArg) (nI o) (nI k) (ob_xs sV sG sS sW sE sC oW oE oC) v w := by
  have h103 : ¬ (OK o = 1 ∧ k < 16 ∧ l ≤ k) → wX_defineProperty_103 post (nI o) (nI k) (ob_xs sV sG sS sW sE sC oW oE oC) v w 0 (nI (32 * o + 16)) (nI n) (nI d) (nI b) deep res thr thn (fun zz => nI (CL zz)) cStr cOp cA cB (fun zz => nI (OK zz)) oKin oOpen xFc xFs xPc xKo xPk (fun zz => ob_xa (tw zz) (te zz) (tc zz)) pVal xSet (fun zz => nI (S zz)) aOut aVar (fun zz => nI (FC zz)) (fun zz => nI (FP zz)) (fun zz => nI (FA zz)) (fun zz => nI (FH zz)) (fun zz => nI (XH zz)) (fun zz => nI (FT zz)) fSelf xHeld stk (fun zz => nI (TA zz)) (fun zz => nI (TH zz)) xArg := fun h => br_t rfl (h3 h)
  have e16 : nI o * 32 + 16 = nI (32 * o + 16) := ob_ix o 16
  unfold wpX_defineProperty
  simp (disch := first | omega | decide) only [forall_eq, not_true, not_false_iff, false_implies, true_implies, true_and, and_true, ob_sub1, Nat.add_sub_cancel, nI_1, ob_ix, ob_iy, ob_ix24, ob_iy24, ob_ix10, ob_iy10, ob_ix4, ob_iy4, ob_ix3, ob_iy3, ob_s1, ob_s2, ob_s3, ob_s4, ob_ltl, ob_lel, ob_eql, ob_ltr, ob_ler, ob_uN, Nat.add_one_ne_zero, ob_xs3, ob_lnn, ob_ltn, ob_eqn, Nat.not_lt_zero, Nat.zero_le, Nat.reduceEqDiff, Nat.reduceLeDiff, Nat.reduceLT, ob_eqll, Int32.reduceLT, Int32.reduceLE, eq_self_iff_true]
  by_cases hA : OK o = 1
  · obtain ⟨hl1, hl2⟩ := hl hA
    refine br_t hA ?_
    unfold wX_defineProperty_15
    refine br_f (by decide) ?_
    have h39 : wX_defineProperty_39 post (nI o) (nI k) (ob_xs sV sG sS sW sE sC oW oE oC) v w 1 (nI n) (nI d) (nI b) deep res thr thn (fun zz => nI (CL zz)) cStr cOp cA cB (fun zz => nI (OK zz)) oKin oOpen xFc xFs xPc xKo xPk (fun zz => ob_xa (tw zz) (te zz) (tc zz)) pVal xSet (fun zz => nI (S zz)) aOut aVar (fun zz => nI (FC zz)) (fun zz => nI (FP zz)) (fun zz => nI (FA zz)) (fun zz => nI (FH zz)) (fun zz => nI (XH zz)) (fun zz => nI (FT zz)) fSelf xHeld stk (fun zz => nI (TA zz)) (fun zz => nI (TH zz)) xArg := by
      unfold wX_defineProperty_39 wX_defineProperty_40
      refine br_t rfl ?_
      unfold wX_defineProperty_66
      rw [e16]
      refine nm_e (br_f (by decide) ?_)
      by_cases h16 : 16 ≤ k
      · simp (disch := first | omega | decide) only [h16, forall_eq, not_true, not_false_iff, false_implies, true_implies, true_and, and_true, ob_sub1, Nat.add_sub_cancel, nI_1, ob_ix, ob_iy, ob_ix24, ob_iy24, ob_ix10, ob_iy10, ob_ix4, ob_iy4, ob_ix3, ob_iy3, ob_s1, ob_s2, ob_s3, ob_s4, ob_ltl, ob_lel, ob_eql, ob_ltr, ob_ler, ob_uN, Nat.add_one_ne_zero, ob_xs3, ob_lnn, ob_ltn, ob_eqn, Nat.not_lt_zero, Nat.zero_le, Nat.reduceEqDiff, Nat.reduceLeDiff, Nat.reduceLT, ob_eqll, Int32.reduceLT, Int32.reduceLE, eq_self_iff_true]
        exact h103 (by omega)
      · have hlt : ((nI k).toInt64 < pVal (32 * o + 16)) = (k < l) := by
          rw [hl2, nI_l (by omega), lN_lt (by omega) (by omega)]
        simp (disch := first | omega | decide) only [h16, hlt, forall_eq, not_true, not_false_iff, false_implies, true_implies, true_and, and_true, ob_sub1, Nat.add_sub_cancel, nI_1, ob_ix, ob_iy, ob_ix24, ob_iy24, ob_ix10, ob_iy10, ob_ix4, ob_iy4, ob_ix3, ob_iy3, ob_s1, ob_s2, ob_s3, ob_s4, ob_ltl, ob_lel, ob_eql, ob_ltr, ob_ler, ob_uN, Nat.add_one_ne_zero, ob_xs3, ob_lnn, ob_ltn, ob_eqn, Nat.not_lt_zero, Nat.zero_le, Nat.reduceEqDiff, Nat.reduceLeDiff, Nat.reduceLT, ob_eqll, Int32.reduceLT, Int32.reduceLE, eq_self_iff_true]
        by_cases hkl : k < l
        · exact br_t hkl (h103 (by omega))
        · refine br_f hkl ?_
          unfold wX_defineProperty_104
          refine br_f (by decide) ?_
          simp (disch := first | omega | decide) only [forall_eq, not_true, not_false_iff, false_implies, true_implies, true_and, and_true, ob_sub1, Nat.add_sub_cancel, nI_1, ob_ix, ob_iy, ob_ix24, ob_iy24, ob_ix10, ob_iy10, ob_ix4, ob_iy4, ob_ix3, ob_iy3, ob_s1, ob_s2, ob_s3, ob_s4, ob_ltl, ob_lel, ob_eql, ob_ltr, ob_ler, ob_uN, Nat.add_one_ne_zero, ob_xs3, ob_lnn, ob_ltn, ob_eqn, Nat.not_lt_zero, Nat.zero_le, Nat.reduceEqDiff, Nat.reduceLeDiff, Nat.reduceLT, ob_eqll, Int32.reduceLT, Int32.reduceLE, eq_self_iff_true]
          cases htw : tw (32 * o + 16)
          · exact br_t ((ob_xaW _ _ _).mpr rfl) (h1 hA (by omega) (by omega) htw)
          · exact br_f (fun z => absurd ((ob_xaW _ _ _).mp z) (by decide)) (h2 hA (by omega) (by omega) htw)
    by_cases h16 : k = 16
    · refine br_t (by rw [h16]; rfl) ?_
      refine br_t ((ob_xsV _ _ _ _ _ _ _ _ _).mpr ?_) h39
      cases hs : sV
      · rfl
      · exact absurd ⟨hA, h16, hs⟩ hns
    · exact br_f (fun z => h16 ((nI_eq (b := 16) (by omega) (by decide)).mp z)) h39
  · refine br_f hA ?_
    unfold wX_defineProperty_15 wX_defineProperty_39 wX_defineProperty_40
    refine br_t rfl (br_t rfl ?_)
    unfold wX_defineProperty_66
    rw [e16]
    exact nm_e (br_t rfl (h103 (fun z => hA z.1)))
/-- the reference the same -/
theorem ob_seYn (ho : o < 32) (hk : k < 32) (hOK : OK o ≤ 2) (hns : ¬ (OK o = 1 ∧ k = 16 ∧ sV = true)) (hl : OK o = 1 → l ≤ 16 ∧ pVal (32 * o + 16) = lN l) (post : Int32 → SY → Prop)
    (h1 : OK o = 1 → k < 16 → l ≤ k → tw (32 * o + 16) = false → post 0 (nI n, nI m, yGiven, nI d, deep, nI b, thr, thn, res, cStr, (fun zz => nI (CL zz)), cOp, cA, cB, (fun zz => nI (OK zz)), oKin, yCo, yAr, oOpen, (fun zz => nI (M zz)), (fun zz => ob_yf (tw zz) (te zz) (tc zz)), yPair, ySeen, pVal, ySet, (fun zz => ob_th (S zz)), yStay, aOut, aVar, yArg, (fun zz => nI (FC zz)), (fun zz => nI (FA zz)), (fun zz => nI (FP zz)), (fun zz => nI (FH zz)), yHan, (fun zz => nI (FT zz)), (fun zz => nI (TA zz)), (fun zz => nI (TH zz)), fSelf, yKept, stk))
    (h2 : OK o = 1 → k < 16 → l ≤ k → tw (32 * o + 16) = true → wY_settle_161 post (nI o) (nI k) (ob_ys sV sG sS sW sE sC) (ob_yf pW pE pC) v wy (nI (32 * o + k)) (nI (32 * o + 16)) 1 (nI n) (nI m) yGiven (nI d) deep (nI b) thr thn res cStr (fun zz => nI (CL zz)) cOp cA cB (fun zz => nI (OK zz)) oKin yCo yAr oOpen (fun zz => nI (M zz)) (fun zz => ob_yf (tw zz) (te zz) (tc zz)) yPair ySeen pVal ySet (fun zz => ob_th (S zz)) yStay aOut aVar yArg (fun zz => nI (FC zz)) (fun zz => nI (FA zz)) (fun zz => nI (FP zz)) (fun zz => nI (FH zz)) yHan (fun zz => nI (FT zz)) (fun zz => nI (TA zz)) (fun zz => nI (TH zz)) fSelf yKept stk)
    (h3 : ¬ (OK o = 1 ∧ k < 16 ∧ l ≤ k) → wY_settle_161 post (nI o) (nI k) (ob_ys sV sG sS sW sE sC) (ob_yf pW pE pC) v wy (nI (32 * o + k)) (nI (32 * o + 16)) 0 (nI n) (nI m) yGiven (nI d) deep (nI b) thr thn res cStr (fun zz => nI (CL zz)) cOp cA cB (fun zz => nI (OK zz)) oKin yCo yAr oOpen (fun zz => nI (M zz)) (fun zz => ob_yf (tw zz) (te zz) (tc zz)) yPair ySeen pVal ySet (fun zz => ob_th (S zz)) yStay aOut aVar yArg (fun zz => nI (FC zz)) (fun zz => nI (FA zz)) (fun zz => nI (FP zz)) (fun zz => nI (FH zz)) yHan (fun zz => nI (FT zz)) (fun zz => nI (TA zz)) (fun zz => nI (TH zz)) fSelf yKept stk) :
    wpY_settle post (nI n, nI m, yGiven, nI d, deep, nI b, thr, thn, res, cStr, (fun zz => nI (CL zz)), cOp, cA, cB, (fun zz => nI (OK zz)), oKin, yCo, yAr, oOpen, (fun zz => nI (M zz)), (fun zz => ob_yf (tw zz) (te zz) (tc zz)), yPair, ySeen, pVal, ySet, (fun zz => ob_th (S zz)), yStay, aOut, aVar, yArg, (fun zz => nI (FC zz)), (fun zz => nI (FA zz)), (fun zz => nI (FP zz)), (fun zz => nI (FH zz)), yHan, (fun zz => nI (FT zz)), (fun zz => nI (TA zz)), (fun zz => nI (TH zz)), fSelf, yKept, stk) (nI o) (nI k) (ob_ys sV sG sS sW sE sC) (ob_yf pW pE pC) v wy := by
  have e16 : 32 * nI o + 16 = nI (32 * o + 16) := ob_iy o 16
  have h79 : ¬ (OK o = 1 ∧ k < 16 ∧ l ≤ k) → wY_settle_79 post (nI o) (nI k) (ob_ys sV sG sS sW sE sC) (ob_yf pW pE pC) v wy (nI (32 * o + k)) (nI (32 * o + 16)) 0 (nI n) (nI m) yGiven (nI d) deep (nI b) thr thn res cStr (fun zz => nI (CL zz)) cOp cA cB (fun zz => nI (OK zz)) oKin yCo yAr oOpen (fun zz => nI (M zz)) (fun zz => ob_yf (tw zz) (te zz) (tc zz)) yPair ySeen pVal ySet (fun zz => ob_th (S zz)) yStay aOut aVar yArg (fun zz => nI (FC zz)) (fun zz => nI (FA zz)) (fun zz => nI (FP zz)) (fun zz => nI (FH zz)) yHan (fun zz => nI (FT zz)) (fun zz => nI (TA zz)) (fun zz => nI (TH zz)) fSelf yKept stk := by
    intro h
    unfold wY_settle_79 wY_settle_80 wY_settle_114 wY_settle_144
    exact br_t rfl (br_t rfl (br_t rfl (h3 h)))
  have h43 : wY_settle_43 post (nI o) (nI k) (ob_ys sV sG sS sW sE sC) (ob_yf pW pE pC) v wy (nI (32 * o + k)) (nI (32 * o + 16)) (nI n) (nI m) yGiven (nI d) deep (nI b) thr thn res cStr (fun zz => nI (CL zz)) cOp cA cB (fun zz => nI (OK zz)) oKin yCo yAr oOpen (fun zz => nI (M zz)) (fun zz => ob_yf (tw zz) (te zz) (tc zz)) yPair ySeen pVal ySet (fun zz => ob_th (S zz)) yStay aOut aVar yArg (fun zz => nI (FC zz)) (fun zz => nI (FA zz)) (fun zz => nI (FP zz)) (fun zz => nI (FH zz)) yHan (fun zz => nI (FT zz)) (fun zz => nI (TA zz)) (fun zz => nI (TH zz)) fSelf yKept stk := by
    unfold wY_settle_43 wY_settle_44
    simp (disch := first | omega | decide) only [forall_eq, not_true, not_false_iff, false_implies, true_implies, true_and, and_true, ob_sub1, Nat.add_sub_cancel, nI_1, ob_ix, ob_iy, ob_ix24, ob_iy24, ob_ix10, ob_iy10, ob_ix4, ob_iy4, ob_ix3, ob_iy3, ob_s1, ob_s2, ob_s3, ob_s4, ob_ltl, ob_lel, ob_eql, ob_ltr, ob_ler, ob_uN, Nat.add_one_ne_zero, ob_xs3, ob_lnn, ob_ltn, ob_eqn, Nat.not_lt_zero, Nat.zero_le, Nat.reduceEqDiff, Nat.reduceLeDiff, Nat.reduceLT, ob_eqll, Int32.reduceLT, Int32.reduceLE, eq_self_iff_true]
    by_cases hA : OK o = 1
    · obtain ⟨hl1, hl2⟩ := hl hA
      refine br_t hA ?_
      by_cases h16 : 16 ≤ k
      · exact br_t h16 (h79 (by omega))
      · have hlt : ((nI k).toInt64 < pVal (32 * o + 16)) = (k < l) := by
          rw [hl2, nI_l (by omega), lN_lt (by omega) (by omega)]
        refine br_f h16 ?_
        rw [hlt]
        by_cases hkl : k < l
        · exact br_t hkl (h79 (by omega))
        · refine br_f hkl ?_
          unfold wY_settle_80 wY_settle_114 wY_settle_144
          refine br_t rfl (br_t rfl (br_f (by decide) ?_))
          simp (disch := first | omega | decide) only [forall_eq, not_true, not_false_iff, false_implies, true_implies, true_and, and_true, ob_sub1, Nat.add_sub_cancel, nI_1, ob_ix, ob_iy, ob_ix24, ob_iy24, ob_ix10, ob_iy10, ob_ix4, ob_iy4, ob_ix3, ob_iy3, ob_s1, ob_s2, ob_s3, ob_s4, ob_ltl, ob_lel, ob_eql, ob_ltr, ob_ler, ob_uN, Nat.add_one_ne_zero, ob_xs3, ob_lnn, ob_ltn, ob_eqn, Nat.not_lt_zero, Nat.zero_le, Nat.reduceEqDiff, Nat.reduceLeDiff, Nat.reduceLT, ob_eqll, Int32.reduceLT, Int32.reduceLE, eq_self_iff_true]
          cases htw : tw (32 * o + 16)
          · exact br_t ((ob_yfW _ _ _).mpr rfl) (h1 hA (by omega) (by omega) htw)
          · exact br_f (fun z => absurd ((ob_yfW _ _ _).mp z) (by decide)) (h2 hA (by omega) (by omega) htw)
    · exact br_f hA (h79 (fun z => hA z.1))
  unfold wpY_settle
  rw [e16]
  simp (disch := first | omega | decide) only [forall_eq, not_true, not_false_iff, false_implies, true_implies, true_and, and_true, ob_sub1, Nat.add_sub_cancel, nI_1, ob_ix, ob_iy, ob_ix24, ob_iy24, ob_ix10, ob_iy10, ob_ix4, ob_iy4, ob_ix3, ob_iy3, ob_s1, ob_s2, ob_s3, ob_s4, ob_ltl, ob_lel, ob_eql, ob_ltr, ob_ler, ob_uN, Nat.add_one_ne_zero, ob_xs3, ob_lnn, ob_ltn, ob_eqn, Nat.not_lt_zero, Nat.zero_le, Nat.reduceEqDiff, Nat.reduceLeDiff, Nat.reduceLT, ob_eqll, Int32.reduceLT, Int32.reduceLE, eq_self_iff_true]
  by_cases hA : OK o = 1
  · refine br_t hA ?_
    by_cases h16 : k = 16
    · refine br_t h16 ?_
      refine br_t ((ob_ysV _ _ _ _ _ _).mpr ?_) h43
      cases hs : sV
      · rfl
      · exact absurd ⟨hA, h16, hs⟩ hns
    · exact br_f h16 h43
  · exact br_f hA h43
/-- behind the ban: the component stores -/
theorem ob_dp189 {x11 : Int32} (hk : k < 32) (ho : o < 32) (g : Bool) (hx : x11 = ob_01 g) (post : Int32 → SX → Prop) {m' : Nat} {M' : Nat → Nat} {pVal' xSet' : Nat → Int64} {xPc' xKo' xPk' : Nat → Int32} {tw' te' tc' : Nat → Bool}
    (hst : ∀ post : SX → Prop, post (nI n, nI d, nI b, deep, res, thr, thn, (fun zz => nI (CL zz)), cStr, cOp, cA, cB, (fun zz => nI (OK zz)), oKin, oOpen, xFc, xFs, xPc', xKo', xPk', (fun zz => ob_xa (tw' zz) (te' zz) (tc' zz)), pVal', xSet', (fun zz => nI (S zz)), aOut, aVar, (fun zz => nI (FC zz)), (fun zz => nI (FP zz)), (fun zz => nI (FA zz)), (fun zz => nI (FH zz)), (fun zz => nI (XH zz)), (fun zz => nI (FT zz)), fSelf, xHeld, stk, (fun zz => nI (TA zz)), (fun zz => nI (TH zz)), xArg) → wpX_storeProperty post (nI n, nI d, nI b, deep, res, thr, thn, (fun zz => nI (CL zz)), cStr, cOp, cA, cB, (fun zz => nI (OK zz)), oKin, oOpen, xFc, xFs, xPc, xKo, xPk, (fun zz => ob_xa (tw zz) (te zz) (tc zz)), pVal, xSet, (fun zz => nI (S zz)), aOut, aVar, (fun zz => nI (FC zz)), (fun zz => nI (FP zz)), (fun zz => nI (FA zz)), (fun zz => nI (FH zz)), (fun zz => nI (XH zz)), (fun zz => nI (FT zz)), fSelf, xHeld, stk, (fun zz => nI (TA zz)), (fun zz => nI (TH zz)), xArg) (nI o) (nI k) (ob_xs sV sG sS sW sE sC oW oE oC) v w)
    (hp : post 1 (nI n, nI d, nI b, deep, res, thr, thn, (fun zz => nI (CL zz)), cStr, cOp, cA, cB, (fun zz => nI (OK zz)), oKin, oOpen, xFc, xFs, xPc', xKo', xPk', (fun zz => ob_xa (tw' zz) (te' zz) (tc' zz)), (if g then vp_updL pVal' (32 * o + 16) (lN (k + 1)) else pVal'), xSet', (fun zz => nI (S zz)), aOut, aVar, (fun zz => nI (FC zz)), (fun zz => nI (FP zz)), (fun zz => nI (FA zz)), (fun zz => nI (FH zz)), (fun zz => nI (XH zz)), (fun zz => nI (FT zz)), fSelf, xHeld, stk, (fun zz => nI (TA zz)), (fun zz => nI (TH zz)), xArg)) :
    wX_defineProperty_189 post (nI o) (nI k) (ob_xs sV sG sS sW sE sC oW oE oC) v w (nI (32 * o + 16)) x11 v (nI n) (nI d) (nI b) deep res thr thn (fun zz => nI (CL zz)) cStr cOp cA cB (fun zz => nI (OK zz)) oKin oOpen xFc xFs xPc xKo xPk (fun zz => ob_xa (tw zz) (te zz) (tc zz)) pVal xSet (fun zz => nI (S zz)) aOut aVar (fun zz => nI (FC zz)) (fun zz => nI (FP zz)) (fun zz => nI (FA zz)) (fun zz => nI (FH zz)) (fun zz => nI (XH zz)) (fun zz => nI (FT zz)) fSelf xHeld stk (fun zz => nI (TA zz)) (fun zz => nI (TH zz)) xArg := by
  unfold wX_defineProperty_189
  refine hst _ ?_
  subst hx
  cases g
  · exact br_t rfl (br_t rfl hp)
  · refine br_f (by decide) ?_
    simp (disch := first | omega | decide) only [nI_l, forall_eq, not_true, not_false_iff, false_implies, true_implies, true_and, and_true, ob_sub1, Nat.add_sub_cancel, nI_1, ob_ix, ob_iy, ob_ix24, ob_iy24, ob_ix10, ob_iy10, ob_ix4, ob_iy4, ob_ix3, ob_iy3, ob_s1, ob_s2, ob_s3, ob_s4, ob_ltl, ob_lel, ob_eql, ob_ltr, ob_ler, ob_uN, Nat.add_one_ne_zero, ob_xs3, ob_lnn, ob_ltn, ob_eqn, Nat.not_lt_zero, Nat.zero_le, Nat.reduceEqDiff, Nat.reduceLeDiff, Nat.reduceLT, ob_eqll, Int32.reduceLT, Int32.reduceLE, eq_self_iff_true]
    exact br_t rfl hp
theorem ob_se201 {x12 : Int32} (hk : k < 32) (ho : o < 32) (g : Bool) (hx : x12 = ob_01 g) (post : Int32 → SY → Prop) {m' : Nat} {M' : Nat → Nat} {pVal' ySet' : Nat → Int64} {yPair' : Nat → Int32} {tw' te' tc' : Nat → Bool}
    (hst : ∀ post : SY → Prop, post (nI n, nI m', yGiven, nI d, deep, nI b, thr, thn, res, cStr, (fun zz => nI (CL zz)), cOp, cA, cB, (fun zz => nI (OK zz)), oKin, yCo, yAr, oOpen, (fun zz => nI (M' zz)), (fun zz => ob_yf (tw' zz) (te' zz) (tc' zz)), yPair', ySeen, pVal', ySet', (fun zz => ob_th (S zz)), yStay, aOut, aVar, yArg, (fun zz => nI (FC zz)), (fun zz => nI (FA zz)), (fun zz => nI (FP zz)), (fun zz => nI (FH zz)), yHan, (fun zz => nI (FT zz)), (fun zz => nI (TA zz)), (fun zz => nI (TH zz)), fSelf, yKept, stk) → wpY_apply post (nI n, nI m, yGiven, nI d, deep, nI b, thr, thn, res, cStr, (fun zz => nI (CL zz)), cOp, cA, cB, (fun zz => nI (OK zz)), oKin, yCo, yAr, oOpen, (fun zz => nI (M zz)), (fun zz => ob_yf (tw zz) (te zz) (tc zz)), yPair, ySeen, pVal, ySet, (fun zz => ob_th (S zz)), yStay, aOut, aVar, yArg, (fun zz => nI (FC zz)), (fun zz => nI (FA zz)), (fun zz => nI (FP zz)), (fun zz => nI (FH zz)), yHan, (fun zz => nI (FT zz)), (fun zz => nI (TA zz)), (fun zz => nI (TH zz)), fSelf, yKept, stk) (nI (32 * o + k)) (ob_ys sV sG sS sW sE sC) (ob_yf pW pE pC) v wy)
    (hp : post 1 (nI n, nI m', yGiven, nI d, deep, nI b, thr, thn, res, cStr, (fun zz => nI (CL zz)), cOp, cA, cB, (fun zz => nI (OK zz)), oKin, yCo, yAr, oOpen, (fun zz => nI (M' zz)), (fun zz => ob_yf (tw' zz) (te' zz) (tc' zz)), yPair', ySeen, (if g then vp_updL pVal' (32 * o + 16) (lN (k + 1)) else pVal'), ySet', (fun zz => ob_th (S zz)), yStay, aOut, aVar, yArg, (fun zz => nI (FC zz)), (fun zz => nI (FA zz)), (fun zz => nI (FP zz)), (fun zz => nI (FH zz)), yHan, (fun zz => nI (FT zz)), (fun zz => nI (TA zz)), (fun zz => nI (TH zz)), fSelf, yKept, stk)) :
    wY_settle_201 post (nI k) (ob_ys sV sG sS sW sE sC) (ob_yf pW pE pC) v wy (nI (32 * o + k)) (nI (32 * o + 16)) x12 (nI n) (nI m) yGiven (nI d) deep (nI b) thr thn res cStr (fun zz => nI (CL zz)) cOp cA cB (fun zz => nI (OK zz)) oKin yCo yAr oOpen (fun zz => nI (M zz)) (fun zz => ob_yf (tw zz) (te zz) (tc zz)) yPair ySeen pVal ySet (fun zz => ob_th (S zz)) yStay aOut aVar yArg (fun zz => nI (FC zz)) (fun zz => nI (FA zz)) (fun zz => nI (FP zz)) (fun zz => nI (FH zz)) yHan (fun zz => nI (FT zz)) (fun zz => nI (TA zz)) (fun zz => nI (TH zz)) fSelf yKept stk := by
  unfold wY_settle_201
  refine hst _ ?_
  subst hx
  cases g
  · exact br_t rfl hp
  · refine br_f (by decide) ?_
    simp (disch := first | omega | decide) only [nI_l, forall_eq, not_true, not_false_iff, false_implies, true_implies, true_and, and_true, ob_sub1, Nat.add_sub_cancel, nI_1, ob_ix, ob_iy, ob_ix24, ob_iy24, ob_ix10, ob_iy10, ob_ix4, ob_iy4, ob_ix3, ob_iy3, ob_s1, ob_s2, ob_s3, ob_s4, ob_ltl, ob_lel, ob_eql, ob_ltr, ob_ler, ob_uN, Nat.add_one_ne_zero, ob_xs3, ob_lnn, ob_ltn, ob_eqn, Nat.not_lt_zero, Nat.zero_le, Nat.reduceEqDiff, Nat.reduceLeDiff, Nat.reduceLT, ob_eqll, Int32.reduceLT, Int32.reduceLE, eq_self_iff_true]
    exact hp
end
