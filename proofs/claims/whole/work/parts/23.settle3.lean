/-! ===== DEFINE of an array's LENGTH ===== -/
theorem ob_m1p {a : Nat} : nI a + (-1) + 1 = nI a := by
  rw [Int32.add_assoc, show (-1 : Int32) + 1 = 0 from by decide, Int32.add_zero]
section
variable {n : Nat} {d : Nat} {b : Nat} {m : Nat} {deep : Int32} {res : Int64} {thr : Int32} {thn : Int64} {CL : Nat → Nat} {cStr : Nat → Int32} {cOp : Nat → Int32} {cA : Nat → Int32} {cB : Nat → Int32} {OK : Nat → Nat} {oKin : Nat → Int32} {oOpen : Nat → Int32} {pVal : Nat → Int64} {aOut : Nat → Int32} {aVar : Nat → Int64} {FC : Nat → Nat} {FA : Nat → Nat} {FP : Nat → Nat} {FH : Nat → Nat} {FT : Nat → Nat} {fSelf : Nat → Int64} {stk : Nat → Int64} {TA : Nat → Nat} {TH : Nat → Nat} {xFc : Nat → Int32} {xFs : Nat → Int32} {xPc : Nat → Int32} {xKo : Nat → Int32} {xPk : Nat → Int32} {tw : Nat → Bool} {te : Nat → Bool} {tc : Nat → Bool} {xSet : Nat → Int64} {S : Nat → Nat} {XH : Nat → Nat} {xHeld : Nat → Int64} {xArg : Nat → Int64} {yCo : Nat → Int32} {yAr : Nat → Int32} {M : Nat → Nat} {yPair : Nat → Int32} {ySeen : Nat → Int32} {ySet : Nat → Int64} {yStay : Nat → Int32} {yArg : Nat → Int64} {yHan : Nat → Int32} {yKept : Nat → Int64} {yGiven : Int32}
variable {o k i l r : Nat} {sV sG sS sW sE sC oW oE oC pW pE pC : Bool} {v w wy : Int64}
theorem ob_gY_cut (hY : ob_gY n OK M tc pVal yPair) : ob_gY n OK (ob_cut M o r) tc pVal yPair := by
  intro q hq h1
  obtain ⟨a1, a2, a3, l, a4, a5, a6⟩ := hY q hq h1
  refine ⟨by rw [ob_cut_lo M (by omega)]; exact a1, a2, a3, l, a4, a5, fun j hj hj2 => ?_⟩
  unfold ob_cut
  split
  · rfl
  · exact a6 j hj hj2
theorem ob_settleS (hpo : ob_po sW sE sC oW oE oC pW pE pC) (hO : ob_gO n OK oKin) (hP : ob_gP n m M pVal xPk tw xSet yPair ySet) (hL : ob_gL n M xPc xKo) (hY : ob_gY n OK M tc pVal yPair) (ho : o < n) (hm : m < 2 ^ 31) (hDA : ((true || sW) && (sG || sS)) = false)
    (hw : sS = true → ob_V n wy ∧ w = wy) (hA : OK o = 1) :
    ∃ (r : Int32) (m' : Nat) (M' : Nat → Nat) (xPc' : Nat → Int32) (xKo' : Nat → Int32) (pVal' : Nat → Int64) (xPk' : Nat → Int32) (tw' : Nat → Bool) (te' : Nat → Bool) (tc' : Nat → Bool) (xSet' : Nat → Int64) (yPair' : Nat → Int32) (ySet' : Nat → Int64), ob_gP n m' M' pVal' xPk' tw' xSet' yPair' ySet' ∧ ob_gL n M' xPc' xKo' ∧ ob_gY n OK M' tc' pVal' yPair' ∧ m' ≤ m + 1 ∧ (r = -2 ∨ r = 0 ∨ r = 1) ∧
      (∀ post : Int32 → SX → Prop, post r (nI n, nI d, nI b, deep, res, thr, thn, (fun zz => nI (CL zz)), cStr, cOp, cA, cB, (fun zz => nI (OK zz)), oKin, oOpen, xFc, xFs, xPc', xKo', xPk', (fun zz => ob_xa (tw' zz) (te' zz) (tc' zz)), pVal', xSet', (fun zz => nI (S zz)), aOut, aVar, (fun zz => nI (FC zz)), (fun zz => nI (FP zz)), (fun zz => nI (FA zz)), (fun zz => nI (FH zz)), (fun zz => nI (XH zz)), (fun zz => nI (FT zz)), fSelf, xHeld, stk, (fun zz => nI (TA zz)), (fun zz => nI (TH zz)), xArg) → wpX_defineProperty post (nI n, nI d, nI b, deep, res, thr, thn, (fun zz => nI (CL zz)), cStr, cOp, cA, cB, (fun zz => nI (OK zz)), oKin, oOpen, xFc, xFs, xPc, xKo, xPk, (fun zz => ob_xa (tw zz) (te zz) (tc zz)), pVal, xSet, (fun zz => nI (S zz)), aOut, aVar, (fun zz => nI (FC zz)), (fun zz => nI (FP zz)), (fun zz => nI (FA zz)), (fun zz => nI (FH zz)), (fun zz => nI (XH zz)), (fun zz => nI (FT zz)), fSelf, xHeld, stk, (fun zz => nI (TA zz)), (fun zz => nI (TH zz)), xArg) (nI o) (nI 16) (ob_xs true sG sS sW sE sC oW oE oC) v w) ∧
      (∀ post : Int32 → SY → Prop, post r (nI n, nI m', yGiven, nI d, deep, nI b, thr, thn, res, cStr, (fun zz => nI (CL zz)), cOp, cA, cB, (fun zz => nI (OK zz)), oKin, yCo, yAr, oOpen, (fun zz => nI (M' zz)), (fun zz => ob_yf (tw' zz) (te' zz) (tc' zz)), yPair', ySeen, pVal', ySet', (fun zz => ob_th (S zz)), yStay, aOut, aVar, yArg, (fun zz => nI (FC zz)), (fun zz => nI (FA zz)), (fun zz => nI (FP zz)), (fun zz => nI (FH zz)), yHan, (fun zz => nI (FT zz)), (fun zz => nI (TA zz)), (fun zz => nI (TH zz)), fSelf, yKept, stk) → wpY_settle post (nI n, nI m, yGiven, nI d, deep, nI b, thr, thn, res, cStr, (fun zz => nI (CL zz)), cOp, cA, cB, (fun zz => nI (OK zz)), oKin, yCo, yAr, oOpen, (fun zz => nI (M zz)), (fun zz => ob_yf (tw zz) (te zz) (tc zz)), yPair, ySeen, pVal, ySet, (fun zz => ob_th (S zz)), yStay, aOut, aVar, yArg, (fun zz => nI (FC zz)), (fun zz => nI (FA zz)), (fun zz => nI (FP zz)), (fun zz => nI (FH zz)), yHan, (fun zz => nI (FT zz)), (fun zz => nI (TA zz)), (fun zz => nI (TH zz)), fSelf, yKept, stk) (nI o) (nI 16) (ob_ys true sG sS sW sE sC) (ob_yf pW pE pC) v wy) := by
  have hn := hO.1.2
  have e16x : nI o * 32 + 16 = nI (32 * o + 16) := ob_ix o 16
  have e16y : 32 * nI o + 16 = nI (32 * o + 16) := ob_iy o 16
  have hsv : ¬ (ob_xs true sG sS sW sE sC oW oE oC &&& 64) = 0 := fun z => absurd ((ob_xsV _ _ _ _ _ _ _ _ _).mp z) (by decide)
  have hyv : ¬ (ob_ys true sG sS sW sE sC &&& 1) = 0 := fun z => absurd ((ob_ysV _ _ _ _ _ _).mp z) (by decide)
  have hX40 : ∀ post : Int32 → SX → Prop, wX_defineProperty_40 post (nI o) (nI 16) (ob_xs true sG sS sW sE sC oW oE oC) v w 1 1 (nI n) (nI d) (nI b) deep res thr thn (fun zz => nI (CL zz)) cStr cOp cA cB (fun zz => nI (OK zz)) oKin oOpen xFc xFs xPc xKo xPk (fun zz => ob_xa (tw zz) (te zz) (tc zz)) pVal xSet (fun zz => nI (S zz)) aOut aVar (fun zz => nI (FC zz)) (fun zz => nI (FP zz)) (fun zz => nI (FA zz)) (fun zz => nI (FH zz)) (fun zz => nI (XH zz)) (fun zz => nI (FT zz)) fSelf xHeld stk (fun zz => nI (TA zz)) (fun zz => nI (TH zz)) xArg → wpX_defineProperty post (nI n, nI d, nI b, deep, res, thr, thn, (fun zz => nI (CL zz)), cStr, cOp, cA, cB, (fun zz => nI (OK zz)), oKin, oOpen, xFc, xFs, xPc, xKo, xPk, (fun zz => ob_xa (tw zz) (te zz) (tc zz)), pVal, xSet, (fun zz => nI (S zz)), aOut, aVar, (fun zz => nI (FC zz)), (fun zz => nI (FP zz)), (fun zz => nI (FA zz)), (fun zz => nI (FH zz)), (fun zz => nI (XH zz)), (fun zz => nI (FT zz)), fSelf, xHeld, stk, (fun zz => nI (TA zz)), (fun zz => nI (TH zz)), xArg) (nI o) (nI 16) (ob_xs true sG sS sW sE sC oW oE oC) v w := by
    intro post h
    unfold wpX_defineProperty
    simp (disch := first | omega | decide) only [hA, forall_eq, not_true, not_false_iff, false_implies, true_implies, true_and, and_true, ob_sub1, Nat.add_sub_cancel, nI_1, ob_ix, ob_iy, ob_ix24, ob_iy24, ob_ix10, ob_iy10, ob_ix4, ob_iy4, ob_ix3, ob_iy3, ob_s1, ob_s2, ob_s3, ob_s4, ob_ltl, ob_lel, ob_eql, ob_ltr, ob_ler, ob_uN, Nat.add_one_ne_zero, ob_xs3, ob_lnn, ob_ltn, ob_eqn, Nat.not_lt_zero, Nat.zero_le, Nat.reduceEqDiff, Nat.reduceLeDiff, Nat.reduceLT, ob_eqll, Int32.reduceLT, Int32.reduceLE, eq_self_iff_true]
    unfold wX_defineProperty_15
    exact br_f (by decide) (br_t rfl (br_f hsv h))
  have hY80 : ∀ post : Int32 → SY → Prop, wY_settle_80 post (nI o) (nI 16) (ob_ys true sG sS sW sE sC) (ob_yf pW pE pC) v wy (nI (32 * o + 16)) (nI (32 * o + 16)) 1 0 (nI n) (nI m) yGiven (nI d) deep (nI b) thr thn res cStr (fun zz => nI (CL zz)) cOp cA cB (fun zz => nI (OK zz)) oKin yCo yAr oOpen (fun zz => nI (M zz)) (fun zz => ob_yf (tw zz) (te zz) (tc zz)) yPair ySeen pVal ySet (fun zz => ob_th (S zz)) yStay aOut aVar yArg (fun zz => nI (FC zz)) (fun zz => nI (FA zz)) (fun zz => nI (FP zz)) (fun zz => nI (FH zz)) yHan (fun zz => nI (FT zz)) (fun zz => nI (TA zz)) (fun zz => nI (TH zz)) fSelf yKept stk → wpY_settle post (nI n, nI m, yGiven, nI d, deep, nI b, thr, thn, res, cStr, (fun zz => nI (CL zz)), cOp, cA, cB, (fun zz => nI (OK zz)), oKin, yCo, yAr, oOpen, (fun zz => nI (M zz)), (fun zz => ob_yf (tw zz) (te zz) (tc zz)), yPair, ySeen, pVal, ySet, (fun zz => ob_th (S zz)), yStay, aOut, aVar, yArg, (fun zz => nI (FC zz)), (fun zz => nI (FA zz)), (fun zz => nI (FP zz)), (fun zz => nI (FH zz)), yHan, (fun zz => nI (FT zz)), (fun zz => nI (TA zz)), (fun zz => nI (TH zz)), fSelf, yKept, stk) (nI o) (nI 16) (ob_ys true sG sS sW sE sC) (ob_yf pW pE pC) v wy := by
    intro post h
    unfold wpY_settle
    rw [e16y]
    simp (disch := first | omega | decide) only [hA, hyv, forall_eq, not_true, not_false_iff, false_implies, true_implies, true_and, and_true, ob_sub1, Nat.add_sub_cancel, nI_1, ob_ix, ob_iy, ob_ix24, ob_iy24, ob_ix10, ob_iy10, ob_ix4, ob_iy4, ob_ix3, ob_iy3, ob_s1, ob_s2, ob_s3, ob_s4, ob_ltl, ob_lel, ob_eql, ob_ltr, ob_ler, ob_uN, Nat.add_one_ne_zero, ob_xs3, ob_lnn, ob_ltn, ob_eqn, Nat.not_lt_zero, Nat.zero_le, Nat.reduceEqDiff, Nat.reduceLeDiff, Nat.reduceLT, ob_eqll, Int32.reduceLT, Int32.reduceLE, eq_self_iff_true]
    unfold wY_settle_44
    simp (disch := first | omega | decide) only [hA, forall_eq, not_true, not_false_iff, false_implies, true_implies, true_and, and_true, ob_sub1, Nat.add_sub_cancel, nI_1, ob_ix, ob_iy, ob_ix24, ob_iy24, ob_ix10, ob_iy10, ob_ix4, ob_iy4, ob_ix3, ob_iy3, ob_s1, ob_s2, ob_s3, ob_s4, ob_ltl, ob_lel, ob_eql, ob_ltr, ob_ler, ob_uN, Nat.add_one_ne_zero, ob_xs3, ob_lnn, ob_ltn, ob_eqn, Nat.not_lt_zero, Nat.zero_le, Nat.reduceEqDiff, Nat.reduceLeDiff, Nat.reduceLT, ob_eqll, Int32.reduceLT, Int32.reduceLE, eq_self_iff_true]
    exact h
  by_cases hlo : v < 0
  · refine ⟨-2, m, M, xPc, xKo, pVal, xPk, tw, te, tc, xSet, yPair, ySet, hP, hL, hY, by omega, Or.inl rfl, fun post hp => hX40 post ?_, fun post hp => hY80 post ?_⟩
    · unfold wX_defineProperty_40
      exact br_f (by decide) (br_t hlo hp)
    · unfold wY_settle_80
      refine br_f (by decide) ?_
      unfold wpY_isNumber
      exact br_c (fun _ => br_f (by decide) (br_t hlo hp)) (fun _ => br_t rfl hp)
  by_cases hhi : v ≤ 16
  case neg =>
    refine ⟨-2, m, M, xPc, xKo, pVal, xPk, tw, te, tc, xSet, yPair, ySet, hP, hL, hY, by omega, Or.inl rfl, fun post hp => hX40 post ?_, fun post hp => hY80 post ?_⟩
    · unfold wX_defineProperty_40
      exact br_f (by decide) (br_f hlo (br_f hhi hp))
    · unfold wY_settle_80
      refine br_f (by decide) ?_
      unfold wpY_isNumber
      exact br_c (fun _ => br_f (by decide) (br_f hlo (br_f hhi hp))) (fun _ => br_t rfl hp)
  obtain ⟨l', hl', rfl⟩ := ob_lN16 hlo hhi
  obtain ⟨a1, a2, a3, l, a4, a5, a6⟩ := hY o ho hA
  have hacc : (sG || sS) = false := by simpa using hDA
  have hsS : sS = false := by
    cases hh : sS
    · rfl
    · rw [hh] at hacc; simp at hacc
  have hX125 : ∀ post : Int32 → SX → Prop, wX_defineProperty_125 post (nI o) (nI 16) (ob_xs true sG sS sW sE sC oW oE oC) (lN l') w 1 (nI (32 * o + 16)) 0 (nI n) (nI d) (nI b) deep res thr thn (fun zz => nI (CL zz)) cStr cOp cA cB (fun zz => nI (OK zz)) oKin oOpen xFc xFs xPc xKo xPk (fun zz => ob_xa (tw zz) (te zz) (tc zz)) pVal xSet (fun zz => nI (S zz)) aOut aVar (fun zz => nI (FC zz)) (fun zz => nI (FP zz)) (fun zz => nI (FA zz)) (fun zz => nI (FH zz)) (fun zz => nI (XH zz)) (fun zz => nI (FT zz)) fSelf xHeld stk (fun zz => nI (TA zz)) (fun zz => nI (TH zz)) xArg → wpX_defineProperty post (nI n, nI d, nI b, deep, res, thr, thn, (fun zz => nI (CL zz)), cStr, cOp, cA, cB, (fun zz => nI (OK zz)), oKin, oOpen, xFc, xFs, xPc, xKo, xPk, (fun zz => ob_xa (tw zz) (te zz) (tc zz)), pVal, xSet, (fun zz => nI (S zz)), aOut, aVar, (fun zz => nI (FC zz)), (fun zz => nI (FP zz)), (fun zz => nI (FA zz)), (fun zz => nI (FH zz)), (fun zz => nI (XH zz)), (fun zz => nI (FT zz)), fSelf, xHeld, stk, (fun zz => nI (TA zz)), (fun zz => nI (TH zz)), xArg) (nI o) (nI 16) (ob_xs true sG sS sW sE sC oW oE oC) (lN l') w := by
    intro post h
    refine hX40 post ?_
    unfold wX_defineProperty_40
    refine br_f (by decide) (br_f hlo (br_t hhi ?_))
    unfold wX_defineProperty_66
    rw [e16x]
    refine nm_e (br_f (by decide) (br_t (by decide) ?_))
    unfold wX_defineProperty_103 wX_defineProperty_104
    exact br_t rfl h
  have hY114 : ∀ post : Int32 → SY → Prop, wY_settle_114 post (nI o) (nI 16) (ob_ys true sG sS sW sE sC) (ob_yf pW pE pC) (lN l') wy (nI (32 * o + 16)) (nI (32 * o + 16)) 1 0 (nI n) (nI m) yGiven (nI d) deep (nI b) thr thn res cStr (fun zz => nI (CL zz)) cOp cA cB (fun zz => nI (OK zz)) oKin yCo yAr oOpen (fun zz => nI (M zz)) (fun zz => ob_yf (tw zz) (te zz) (tc zz)) yPair ySeen pVal ySet (fun zz => ob_th (S zz)) yStay aOut aVar yArg (fun zz => nI (FC zz)) (fun zz => nI (FA zz)) (fun zz => nI (FP zz)) (fun zz => nI (FH zz)) yHan (fun zz => nI (FT zz)) (fun zz => nI (TA zz)) (fun zz => nI (TH zz)) fSelf yKept stk → wpY_settle post (nI n, nI m, yGiven, nI d, deep, nI b, thr, thn, res, cStr, (fun zz => nI (CL zz)), cOp, cA, cB, (fun zz => nI (OK zz)), oKin, yCo, yAr, oOpen, (fun zz => nI (M zz)), (fun zz => ob_yf (tw zz) (te zz) (tc zz)), yPair, ySeen, pVal, ySet, (fun zz => ob_th (S zz)), yStay, aOut, aVar, yArg, (fun zz => nI (FC zz)), (fun zz => nI (FA zz)), (fun zz => nI (FP zz)), (fun zz => nI (FH zz)), yHan, (fun zz => nI (FT zz)), (fun zz => nI (TA zz)), (fun zz => nI (TH zz)), fSelf, yKept, stk) (nI o) (nI 16) (ob_ys true sG sS sW sE sC) (ob_yf pW pE pC) (lN l') wy := by
    intro post h
    refine hY80 post ?_
    unfold wY_settle_80
    refine br_f (by decide) (ob_isnT (by omega) _ ?_)
    exact br_f (by decide) (br_f hlo (br_t hhi h))
  obtain ⟨fb, hfb1, hfb2, hfX, hfY⟩ := ob_fb (n := n) (d := d) (b := b) (m := m) (deep := deep) (res := res) (thr := thr) (thn := thn) (CL := CL) (cStr := cStr) (cOp := cOp) (cA := cA) (cB := cB) (OK := OK) (oKin := oKin) (oOpen := oOpen) (pVal := pVal) (aOut := aOut) (aVar := aVar) (FC := FC) (FA := FA) (FP := FP) (FH := FH) (FT := FT) (fSelf := fSelf) (stk := stk) (TA := TA) (TH := TH) (xFc := xFc) (xFs := xFs) (xPc := xPc) (xKo := xKo) (xPk := xPk) (tw := tw) (te := te) (tc := tc) (xSet := xSet) (S := S) (XH := XH) (xHeld := xHeld) (xArg := xArg) (yCo := yCo) (yAr := yAr) (M := M) (yPair := yPair) (ySeen := ySeen) (ySet := ySet) (yStay := yStay) (yArg := yArg) (yHan := yHan) (yKept := yKept) (yGiven := yGiven) (k := 16) (sV := true) (sG := sG) (sS := sS) (sW := sW) (sE := sE) (sC := sC) (oW := oW) (oE := oE) (oC := oC) (v := lN l') (w := w) (wy := wy) hpo hO hP ho (by decide) hm (fun h => (hw h).2)
  have h15 : (15 : Int32) = nI 16 + (-1) := by decide
  have hX164 : ∀ (r : Nat) (post : Int32 → SX → Prop), fb = false → ob_rch M tc o l' r → wX_defineProperty_164 post (nI o) (nI 16) (ob_xs true sG sS sW sE sC oW oE oC) (lN l') w (nI (32 * o + 16)) 0 (nI r) (16 - r + 1) (nI 16 + (-1)) (nI n) (nI d) (nI b) deep res thr thn (fun zz => nI (CL zz)) cStr cOp cA cB (fun zz => nI (OK zz)) oKin oOpen xFc xFs xPc xKo xPk (fun zz => ob_xa (tw zz) (te zz) (tc zz)) pVal xSet (fun zz => nI (S zz)) aOut aVar (fun zz => nI (FC zz)) (fun zz => nI (FP zz)) (fun zz => nI (FA zz)) (fun zz => nI (FH zz)) (fun zz => nI (XH zz)) (fun zz => nI (FT zz)) fSelf xHeld stk (fun zz => nI (TA zz)) (fun zz => nI (TH zz)) xArg → wX_defineProperty_125 post (nI o) (nI 16) (ob_xs true sG sS sW sE sC oW oE oC) (lN l') w 1 (nI (32 * o + 16)) 0 (nI n) (nI d) (nI b) deep res thr thn (fun zz => nI (CL zz)) cStr cOp cA cB (fun zz => nI (OK zz)) oKin oOpen xFc xFs xPc xKo xPk (fun zz => ob_xa (tw zz) (te zz) (tc zz)) pVal xSet (fun zz => nI (S zz)) aOut aVar (fun zz => nI (FC zz)) (fun zz => nI (FP zz)) (fun zz => nI (FA zz)) (fun zz => nI (FH zz)) (fun zz => nI (XH zz)) (fun zz => nI (FT zz)) fSelf xHeld stk (fun zz => nI (TA zz)) (fun zz => nI (TH zz)) xArg := by
    intro r post hf hr h
    unfold wX_defineProperty_125
    refine hfX _ ?_
    rw [hf]
    refine br_t rfl (br_f (by decide) ?_)
    unfold wpX_leastLength
    rw [lN_i, h15]
    have hr2 := hr.2.1
    exact ⟨16 - r + 1, ob_leastX ho hn hP hr _ ⟨_, h⟩ (16 - r) 16 (by omega) (by omega)⟩
  have hFalse : fb = true → ∀ post : Int32 → SX → Prop, post 0 (nI n, nI d, nI b, deep, res, thr, thn, (fun zz => nI (CL zz)), cStr, cOp, cA, cB, (fun zz => nI (OK zz)), oKin, oOpen, xFc, xFs, xPc, xKo, xPk, (fun zz => ob_xa (tw zz) (te zz) (tc zz)), pVal, xSet, (fun zz => nI (S zz)), aOut, aVar, (fun zz => nI (FC zz)), (fun zz => nI (FP zz)), (fun zz => nI (FA zz)), (fun zz => nI (FH zz)), (fun zz => nI (XH zz)), (fun zz => nI (FT zz)), fSelf, xHeld, stk, (fun zz => nI (TA zz)), (fun zz => nI (TH zz)), xArg) → wX_defineProperty_125 post (nI o) (nI 16) (ob_xs true sG sS sW sE sC oW oE oC) (lN l') w 1 (nI (32 * o + 16)) 0 (nI n) (nI d) (nI b) deep res thr thn (fun zz => nI (CL zz)) cStr cOp cA cB (fun zz => nI (OK zz)) oKin oOpen xFc xFs xPc xKo xPk (fun zz => ob_xa (tw zz) (te zz) (tc zz)) pVal xSet (fun zz => nI (S zz)) aOut aVar (fun zz => nI (FC zz)) (fun zz => nI (FP zz)) (fun zz => nI (FA zz)) (fun zz => nI (FH zz)) (fun zz => nI (XH zz)) (fun zz => nI (FT zz)) fSelf xHeld stk (fun zz => nI (TA zz)) (fun zz => nI (TH zz)) xArg := by
    intro hf post hp
    unfold wX_defineProperty_125
    refine hfX _ ?_
    rw [hf]
    exact br_f (by decide) hp
  by_cases hll : l ≤ l'
  · have hle : pVal (32 * o + 16) ≤ lN l' := by rw [a5, lN_le (by omega) (by omega)]; exact hll
    have hY161 : ∀ post : Int32 → SY → Prop, wY_settle_161 post (nI o) (nI 16) (ob_ys true sG sS sW sE sC) (ob_yf pW pE pC) (lN l') wy (nI (32 * o + 16)) (nI (32 * o + 16)) 0 (nI n) (nI m) yGiven (nI d) deep (nI b) thr thn res cStr (fun zz => nI (CL zz)) cOp cA cB (fun zz => nI (OK zz)) oKin yCo yAr oOpen (fun zz => nI (M zz)) (fun zz => ob_yf (tw zz) (te zz) (tc zz)) yPair ySeen pVal ySet (fun zz => ob_th (S zz)) yStay aOut aVar yArg (fun zz => nI (FC zz)) (fun zz => nI (FA zz)) (fun zz => nI (FP zz)) (fun zz => nI (FH zz)) yHan (fun zz => nI (FT zz)) (fun zz => nI (TA zz)) (fun zz => nI (TH zz)) fSelf yKept stk → wpY_settle post (nI n, nI m, yGiven, nI d, deep, nI b, thr, thn, res, cStr, (fun zz => nI (CL zz)), cOp, cA, cB, (fun zz => nI (OK zz)), oKin, yCo, yAr, oOpen, (fun zz => nI (M zz)), (fun zz => ob_yf (tw zz) (te zz) (tc zz)), yPair, ySeen, pVal, ySet, (fun zz => ob_th (S zz)), yStay, aOut, aVar, yArg, (fun zz => nI (FC zz)), (fun zz => nI (FA zz)), (fun zz => nI (FP zz)), (fun zz => nI (FH zz)), yHan, (fun zz => nI (FT zz)), (fun zz => nI (TA zz)), (fun zz => nI (TH zz)), fSelf, yKept, stk) (nI o) (nI 16) (ob_ys true sG sS sW sE sC) (ob_yf pW pE pC) (lN l') wy := by
      intro post h
      refine hY114 post ?_
      unfold wY_settle_114
      refine br_f (by decide) ?_
      simp (disch := first | omega | decide) only [forall_eq, not_true, not_false_iff, false_implies, true_implies, true_and, and_true, ob_sub1, Nat.add_sub_cancel, nI_1, ob_ix, ob_iy, ob_ix24, ob_iy24, ob_ix10, ob_iy10, ob_ix4, ob_iy4, ob_ix3, ob_iy3, ob_s1, ob_s2, ob_s3, ob_s4, ob_ltl, ob_lel, ob_eql, ob_ltr, ob_ler, ob_uN, Nat.add_one_ne_zero, ob_xs3, ob_lnn, ob_ltn, ob_eqn, Nat.not_lt_zero, Nat.zero_le, Nat.reduceEqDiff, Nat.reduceLeDiff, Nat.reduceLT, ob_eqll, Int32.reduceLT, Int32.reduceLE, eq_self_iff_true]
      refine br_t hle ?_
      unfold wY_settle_144
      exact br_t rfl h
    cases hf : fb
    · have hrch : ob_rch M tc o l' l' := ⟨Nat.le_refl _, hl', fun q hq hq2 => Or.inl (a6 q (by omega) hq2), Or.inl rfl⟩
      obtain ⟨xPc1, xKo1, xPk1, hP1, hL1, hX1⟩ := ob_cutX (d := d) (b := b) (deep := deep) (res := res) (thr := thr) (thn := thn) (CL := CL) (cStr := cStr) (cOp := cOp) (cA := cA) (cB := cB) (OK := OK) (oKin := oKin) (oOpen := oOpen) (aOut := aOut) (aVar := aVar) (FC := FC) (FA := FA) (FP := FP) (FH := FH) (FT := FT) (fSelf := fSelf) (stk := stk) (TA := TA) (TH := TH) (xFc := xFc) (xFs := xFs) (te := te) (tc := tc) (S := S) (XH := XH) (xHeld := xHeld) (xArg := xArg) (M := M) (r := l') (x2 := nI 16) (x10 := nI (32 * o + 16)) (x11 := 0) (said := ob_xs true sG sS sW sE sC oW oE oC) (v := lN l') (w := w) ho hn hl' (16 - l') 16 xPc xKo xPk (by omega) (by omega) (by rw [ob_cut_16]; exact hP) (by rw [ob_cut_16]; exact hL)
      rw [ob_cut_e (fun q hq hq2 => a6 q (by omega) hq2)] at hP1 hL1
      obtain ⟨m', M', xPc', xKo', pVal', xPk', tw', te', tc', xSet', yPair', ySet', hP', hL', hm1, hm2, hMi, hoth, hF1, hF2, hX, hYY⟩ := ob_store (n := n) (d := d) (b := b) (m := m) (deep := deep) (res := res) (thr := thr) (thn := thn) (CL := CL) (cStr := cStr) (cOp := cOp) (cA := cA) (cB := cB) (OK := OK) (oKin := oKin) (oOpen := oOpen) (pVal := pVal) (aOut := aOut) (aVar := aVar) (FC := FC) (FA := FA) (FP := FP) (FH := FH) (FT := FT) (fSelf := fSelf) (stk := stk) (TA := TA) (TH := TH) (xFc := xFc) (xFs := xFs) (xPc := xPc1) (xKo := xKo1) (xPk := xPk1) (tw := tw) (te := te) (tc := tc) (xSet := xSet) (S := S) (XH := XH) (xHeld := xHeld) (xArg := xArg) (yCo := yCo) (yAr := yAr) (M := M) (yPair := yPair) (ySeen := ySeen) (ySet := ySet) (yStay := yStay) (yArg := yArg) (yHan := yHan) (yKept := yKept) (yGiven := yGiven) (k := 16) (sV := true) (sG := sG) (sS := sS) (sW := sW) (sE := sE) (sC := sC) (oW := oW) (oE := oE) (oC := oC) (v := lN l') (w := w) (wy := wy) hpo hO hP1 hL1 ho (by decide) hm hDA (fun _ => ob_lNV n (by omega)) hw
      obtain ⟨eqS, halw⟩ := hfb1 hf a1
      rw [a2, show decide ((0 : Int32) = 1) = false from rfl] at halw
      obtain ⟨c1, c2⟩ := ob_alwC halw a3
      obtain ⟨b1, b2, b3⟩ := hF1 a1 a2 c1
      refine ⟨1, m', M', xPc', xKo', pVal', xPk', tw', te', tc', xSet', yPair', ySet', hP', hL', ?_, hm2, Or.inr (Or.inr rfl), fun post hp => ?_, fun post hp => ?_⟩
      · refine ob_gY_st hY (by decide) hoth hMi (fun _ _ => ⟨b1, by rw [b3, a3]; exact ob_ifC c2, l', hl', b2, fun q hq hq2 => a6 q (by omega) hq2⟩) (fun _ h => absurd h (by decide))
      · refine hX125 post (hX164 l' post hf hrch (hX1 post ?_))
        rw [nI_l (by omega)]
        exact ob_dp189 (m' := m') (M' := M') (by decide) (by omega) false rfl post hX hp
      · exact hY161 post (hfY post _ _ (fun h2 => absurd (hf.symm.trans h2) (by decide)) (fun _ => ob_se201 (by decide) (by omega) false rfl post hYY hp))
    · exact ⟨0, m, M, xPc, xKo, pVal, xPk, tw, te, tc, xSet, yPair, ySet, hP, hL, hY, by omega, Or.inr (Or.inl rfl), fun post hp => hX125 post (hFalse hf post hp), fun post hp => hY161 post (hfY post _ _ (fun _ => hp) (fun h2 => absurd (hf.symm.trans h2) (by decide)))⟩
  · have hle : ¬ pVal (32 * o + 16) ≤ lN l' := by rw [a5, lN_le (by omega) (by omega)]; omega
    have hYsh : ∀ post : Int32 → SY → Prop, wpY_shorten (fun r u => post r u) (nI n, nI m, yGiven, nI d, deep, nI b, thr, thn, res, cStr, (fun zz => nI (CL zz)), cOp, cA, cB, (fun zz => nI (OK zz)), oKin, yCo, yAr, oOpen, (fun zz => nI (M zz)), (fun zz => ob_yf (tw zz) (te zz) (tc zz)), yPair, ySeen, pVal, ySet, (fun zz => ob_th (S zz)), yStay, aOut, aVar, yArg, (fun zz => nI (FC zz)), (fun zz => nI (FA zz)), (fun zz => nI (FP zz)), (fun zz => nI (FH zz)), yHan, (fun zz => nI (FT zz)), (fun zz => nI (TA zz)), (fun zz => nI (TH zz)), fSelf, yKept, stk) (nI o) (ob_ys true sG sS sW sE sC) (ob_yf pW pE pC) (nI l') → wpY_settle post (nI n, nI m, yGiven, nI d, deep, nI b, thr, thn, res, cStr, (fun zz => nI (CL zz)), cOp, cA, cB, (fun zz => nI (OK zz)), oKin, yCo, yAr, oOpen, (fun zz => nI (M zz)), (fun zz => ob_yf (tw zz) (te zz) (tc zz)), yPair, ySeen, pVal, ySet, (fun zz => ob_th (S zz)), yStay, aOut, aVar, yArg, (fun zz => nI (FC zz)), (fun zz => nI (FA zz)), (fun zz => nI (FP zz)), (fun zz => nI (FH zz)), yHan, (fun zz => nI (FT zz)), (fun zz => nI (TA zz)), (fun zz => nI (TH zz)), fSelf, yKept, stk) (nI o) (nI 16) (ob_ys true sG sS sW sE sC) (ob_yf pW pE pC) (lN l') wy := by
      intro post h
      refine hY114 post ?_
      unfold wY_settle_114
      refine br_f (by decide) ?_
      simp (disch := first | omega | decide) only [forall_eq, not_true, not_false_iff, false_implies, true_implies, true_and, and_true, ob_sub1, Nat.add_sub_cancel, nI_1, ob_ix, ob_iy, ob_ix24, ob_iy24, ob_ix10, ob_iy10, ob_ix4, ob_iy4, ob_ix3, ob_iy3, ob_s1, ob_s2, ob_s3, ob_s4, ob_ltl, ob_lel, ob_eql, ob_ltr, ob_ler, ob_uN, Nat.add_one_ne_zero, ob_xs3, ob_lnn, ob_ltn, ob_eqn, Nat.not_lt_zero, Nat.zero_le, Nat.reduceEqDiff, Nat.reduceLeDiff, Nat.reduceLT, ob_eqll, Int32.reduceLT, Int32.reduceLE, eq_self_iff_true]
      refine br_f hle ?_
      rw [lN_i]
      exact h
    cases htw : tw (32 * o + 16)
    · have hf : fb = true := by
        cases hh : fb
        · obtain ⟨eqS, halw⟩ := hfb1 hh a1
          have hne : decide (lN l' = pVal (32 * o + 16)) = false := by
            rw [a5]
            exact decide_eq_false (fun z => by have := (pk_lEQ (by omega) (by omega)).mp z; omega)
          rw [a2, a3, htw, hne, show decide ((0 : Int32) = 1) = false from rfl] at halw
          unfold ob_alw at halw
          simp at halw
        · rfl
      refine ⟨0, m, M, xPc, xKo, pVal, xPk, tw, te, tc, xSet, yPair, ySet, hP, hL, hY, by omega, Or.inr (Or.inl rfl), fun post hp => hX125 post (hFalse hf post hp), fun post hp => hYsh post ?_⟩
      unfold wpY_shorten
      rw [e16y]
      simp (disch := first | omega | decide) only [htw, forall_eq, not_true, not_false_iff, false_implies, true_implies, true_and, and_true, ob_sub1, Nat.add_sub_cancel, nI_1, ob_ix, ob_iy, ob_ix24, ob_iy24, ob_ix10, ob_iy10, ob_ix4, ob_iy4, ob_ix3, ob_iy3, ob_s1, ob_s2, ob_s3, ob_s4, ob_ltl, ob_lel, ob_eql, ob_ltr, ob_ler, ob_uN, Nat.add_one_ne_zero, ob_xs3, ob_lnn, ob_ltn, ob_eqn, Nat.not_lt_zero, Nat.zero_le, Nat.reduceEqDiff, Nat.reduceLeDiff, Nat.reduceLT, ob_eqll, Int32.reduceLT, Int32.reduceLE, eq_self_iff_true]
      exact br_t ((ob_yfW _ _ _).mpr rfl) hp
    · have hYal : ∀ post : Int32 → SY → Prop, (fb = true → post 0 (nI n, nI m, yGiven, nI d, deep, nI b, thr, thn, res, cStr, (fun zz => nI (CL zz)), cOp, cA, cB, (fun zz => nI (OK zz)), oKin, yCo, yAr, oOpen, (fun zz => nI (M zz)), (fun zz => ob_yf (tw zz) (te zz) (tc zz)), yPair, ySeen, pVal, ySet, (fun zz => ob_th (S zz)), yStay, aOut, aVar, yArg, (fun zz => nI (FC zz)), (fun zz => nI (FA zz)), (fun zz => nI (FP zz)), (fun zz => nI (FH zz)), yHan, (fun zz => nI (FT zz)), (fun zz => nI (TA zz)), (fun zz => nI (TH zz)), fSelf, yKept, stk)) → (fb = false → ∃ n44 : Nat, wY_shorten_44 post (nI o) (ob_ys true sG sS sW sE sC) (ob_yf pW pE pC) (nI l') (nI (32 * o + 16)) (nI n) (nI m) yGiven (nI d) deep (nI b) thr thn res n44 (nI (32 * o + 16) - 1) cStr (fun zz => nI (CL zz)) cOp cA cB (fun zz => nI (OK zz)) oKin yCo yAr oOpen (fun zz => nI (M zz)) (fun zz => ob_yf (tw zz) (te zz) (tc zz)) yPair ySeen pVal ySet (fun zz => ob_th (S zz)) yStay aOut aVar yArg (fun zz => nI (FC zz)) (fun zz => nI (FA zz)) (fun zz => nI (FP zz)) (fun zz => nI (FH zz)) yHan (fun zz => nI (FT zz)) (fun zz => nI (TA zz)) (fun zz => nI (TH zz)) fSelf yKept stk) → wpY_shorten (fun r u => post r u) (nI n, nI m, yGiven, nI d, deep, nI b, thr, thn, res, cStr, (fun zz => nI (CL zz)), cOp, cA, cB, (fun zz => nI (OK zz)), oKin, yCo, yAr, oOpen, (fun zz => nI (M zz)), (fun zz => ob_yf (tw zz) (te zz) (tc zz)), yPair, ySeen, pVal, ySet, (fun zz => ob_th (S zz)), yStay, aOut, aVar, yArg, (fun zz => nI (FC zz)), (fun zz => nI (FA zz)), (fun zz => nI (FP zz)), (fun zz => nI (FH zz)), yHan, (fun zz => nI (FT zz)), (fun zz => nI (TA zz)), (fun zz => nI (TH zz)), fSelf, yKept, stk) (nI o) (ob_ys true sG sS sW sE sC) (ob_yf pW pE pC) (nI l') := by
        intro post h1 h2
        unfold wpY_shorten
        rw [e16y]
        refine nm_e (nm_e ?_)
        have hin : vp_in (nI (32 * o + 16)) 1024 := vp_in_nI (by omega) (by decide)
        refine ⟨hin, ?_⟩
        rw [ob_s3 (by omega)]
        show ((ob_yf (tw (32 * o + 16)) (te (32 * o + 16)) (tc (32 * o + 16)) &&& 2) = 0 → _) ∧ (¬ (ob_yf (tw (32 * o + 16)) (te (32 * o + 16)) (tc (32 * o + 16)) &&& 2) = 0 → _)
        refine br_f (fun z => absurd (htw.symm.trans ((ob_yfW _ _ _).mp z)) (by decide)) ?_
        rw [nI_l (by omega)]
        refine ob_alwY hpo (by omega) (Or.inl a2) _ ?_
        cases hf : fb
        · obtain ⟨eqS, halw⟩ := hfb1 hf a1
          rw [a2, show decide ((0 : Int32) = 1) = false from rfl] at halw
          have halw2 : ob_alw true sG sS sW sE sC oW oE oC (tw (32 * o + 16)) (te (32 * o + 16)) (tc (32 * o + 16)) (decide (yPair (32 * o + 16) = 1)) (decide (lN l' = pVal (32 * o + 16))) (decide (0 = ySet (32 * o + 16))) = true := by
            rw [a2]
            exact halw
          rw [halw2]
          exact br_f (by decide) (h2 hf)
        · have halw2 : ob_alw true sG sS sW sE sC oW oE oC (tw (32 * o + 16)) (te (32 * o + 16)) (tc (32 * o + 16)) (decide (yPair (32 * o + 16) = 1)) (decide (lN l' = pVal (32 * o + 16))) (decide (0 = ySet (32 * o + 16))) = false := by
            rw [a2]
            exact hfb2 hf a1 a2 _
          rw [halw2]
          exact br_t rfl (h1 hf)
      cases hf : fb
      · obtain ⟨r, hr⟩ := ob_rch_ex M tc o l' (16 - l') 16 (by omega) (by omega) (fun q hq hq2 => absurd hq2 (by omega))
        have hr1 := hr.1
        have hr2 := hr.2.1
        obtain ⟨xPc1, xKo1, xPk1, hP1, hL1, hX1⟩ := ob_cutX (d := d) (b := b) (deep := deep) (res := res) (thr := thr) (thn := thn) (CL := CL) (cStr := cStr) (cOp := cOp) (cA := cA) (cB := cB) (OK := OK) (oKin := oKin) (oOpen := oOpen) (aOut := aOut) (aVar := aVar) (FC := FC) (FA := FA) (FP := FP) (FH := FH) (FT := FT) (fSelf := fSelf) (stk := stk) (TA := TA) (TH := TH) (xFc := xFc) (xFs := xFs) (te := te) (tc := tc) (S := S) (XH := XH) (xHeld := xHeld) (xArg := xArg) (M := M) (r := r) (x2 := nI 16) (x10 := nI (32 * o + 16)) (x11 := 0) (said := ob_xs true sG sS sW sE sC oW oE oC) (v := lN l') (w := w) ho hn hr2 (16 - r) 16 xPc xKo xPk (by omega) (by omega) (by rw [ob_cut_16]; exact hP) (by rw [ob_cut_16]; exact hL)
        have hcM : ob_cut M o r (32 * o + 16) = M (32 * o + 16) := ob_cut_lo M (by omega)
        obtain ⟨m', M', xPc', xKo', pVal', xPk', tw', te', tc', xSet', yPair', ySet', hP', hL', hm1, hm2, hMi, hoth, hF1, hF2, hX, hYY⟩ := ob_store (n := n) (d := d) (b := b) (m := m) (deep := deep) (res := res) (thr := thr) (thn := thn) (CL := CL) (cStr := cStr) (cOp := cOp) (cA := cA) (cB := cB) (OK := OK) (oKin := oKin) (oOpen := oOpen) (pVal := pVal) (aOut := aOut) (aVar := aVar) (FC := FC) (FA := FA) (FP := FP) (FH := FH) (FT := FT) (fSelf := fSelf) (stk := stk) (TA := TA) (TH := TH) (xFc := xFc) (xFs := xFs) (xPc := xPc1) (xKo := xKo1) (xPk := xPk1) (tw := tw) (te := te) (tc := tc) (xSet := xSet) (S := S) (XH := XH) (xHeld := xHeld) (xArg := xArg) (yCo := yCo) (yAr := yAr) (M := (ob_cut M o r)) (yPair := yPair) (ySeen := ySeen) (ySet := ySet) (yStay := yStay) (yArg := yArg) (yHan := yHan) (yKept := yKept) (yGiven := yGiven) (k := 16) (sV := true) (sG := sG) (sS := sS) (sW := sW) (sE := sE) (sC := sC) (oW := oW) (oE := oE) (oC := oC) (v := lN r) (w := w) (wy := 0) hpo hO hP1 hL1 ho (by decide) hm hDA (fun _ => ob_lNV n (by omega)) (fun h => absurd (hsS.symm.trans h) (by decide))
        obtain ⟨eqS, halw⟩ := hfb1 hf a1
        rw [a2, show decide ((0 : Int32) = 1) = false from rfl] at halw
        obtain ⟨c1, c2⟩ := ob_alwC halw a3
        obtain ⟨b1, b2, b3⟩ := hF1 (by rw [hcM]; exact a1) a2 c1
        refine ⟨if r = l' then 1 else 0, m', M', xPc', xKo', pVal', xPk', tw', te', tc', xSet', yPair', ySet', hP', hL', ?_, hm2, ?_, fun post hp => ?_, fun post hp => ?_⟩
        · refine ob_gY_st (ob_gY_cut hY) (by decide) hoth hMi (fun _ _ => ⟨b1, by rw [b3, a3]; exact ob_ifC c2, r, hr2, b2, fun q hq hq2 => ?_⟩) (fun _ h => absurd h (by decide))
          unfold ob_cut
          rw [if_pos (by omega)]
        · split
          · exact Or.inr (Or.inr rfl)
          · exact Or.inr (Or.inl rfl)
        · refine hX125 post (hX164 r post hf hr (hX1 post ?_))
          rw [nI_l (by omega)]
          unfold wX_defineProperty_189
          refine hX _ ?_
          refine br_t rfl ?_
          unfold wX_defineProperty_216
          by_cases hrl : r = l'
          · rw [if_pos hrl] at hp
            exact br_t (by rw [hrl]) hp
          · rw [if_neg hrl] at hp
            exact br_f (fun z => hrl ((pk_lEQ (by omega) (by omega)).mp z)) hp
        · refine hYsh post (hYal post (fun h => absurd (hf.symm.trans h) (by decide)) (fun _ => ⟨16 - r + 1, ?_⟩))
          have hcy := ob_cutY (n := n) (d := d) (b := b) (m := m) (deep := deep) (res := res) (thr := thr) (thn := thn) (CL := CL) (cStr := cStr) (cOp := cOp) (cA := cA) (cB := cB) (OK := OK) (oKin := oKin) (oOpen := oOpen) (pVal := pVal) (aOut := aOut) (aVar := aVar) (FC := FC) (FA := FA) (FP := FP) (FH := FH) (FT := FT) (fSelf := fSelf) (stk := stk) (TA := TA) (TH := TH) (tw := tw) (te := te) (tc := tc) (S := S) (yCo := yCo) (yAr := yAr) (M := M) (yPair := yPair) (ySeen := ySeen) (ySet := ySet) (yStay := yStay) (yArg := yArg) (yHan := yHan) (yKept := yKept) (yGiven := yGiven) (said := ob_ys true sG sS sW sE sC) (on := ob_yf pW pE pC) (l := l') (r := r) (by omega) hl' hP.1 hm hr post ?_ (16 - r) 16 (by omega) (by omega)
          · rw [ob_cut_16] at hcy
            rw [Int32.sub_eq_add_neg]
            exact hcy
          · unfold wY_shorten_93
            have e1 : (nI (32 * o + r) + (-1) + 1 - 32 * nI o).toInt64 = lN r := by
              rw [ob_m1p, show 32 * nI o = nI (32 * o) from pk_mul 32 o, pk_sub (by omega), Nat.add_sub_cancel_left, nI_l (by omega)]
            rw [e1, ob_iy]
            refine hYY _ ?_
            by_cases hrl : r = l'
            · rw [if_pos hrl] at hp
              subst hrl
              exact br_f (Int32.not_le.mpr (ob_m1lt (by omega))) hp
            · rw [if_neg hrl] at hp
              obtain ⟨q, rfl⟩ : ∃ q, r = q + 1 := ⟨r - 1, by omega⟩
              refine br_t ?_ hp
              rw [show 32 * o + (q + 1) = (32 * o + q) + 1 from rfl, pk_m1]
              exact nI_le (by omega) (by omega)
      · exact ⟨0, m, M, xPc, xKo, pVal, xPk, tw, te, tc, xSet, yPair, ySet, hP, hL, hY, by omega, Or.inr (Or.inl rfl), fun post hp => hX125 post (hFalse hf post hp), fun post hp => hYsh post (hYal post (fun _ => hp) (fun h2 => absurd (hf.symm.trans h2) (by decide)))⟩
/-- DEFINE: one answer, related states -/
theorem ob_settle (hpo : ob_po sW sE sC oW oE oC pW pE pC) (R : ob_R n d b m res thr thn CL cOp cA cB OK oKin pVal aOut aVar FC FA FP FH FT fSelf stk TA TH xFc xFs xPc xKo xPk tw tc xSet S XH xHeld yCo yAr M yPair ySet yStay yHan yKept) (ho : o < n) (hk : k < 32) (hm : m < 2 ^ 31) (hDA : ((sV || sW) && (sG || sS)) = false) (hv : (sV || sG) = true → ob_V n v) (hw : sS = true → ob_V n wy ∧ w = wy) :
    ∃ (r : Int32) (m' : Nat) (M' : Nat → Nat) (xPc' : Nat → Int32) (xKo' : Nat → Int32) (pVal' : Nat → Int64) (xPk' : Nat → Int32) (tw' : Nat → Bool) (te' : Nat → Bool) (tc' : Nat → Bool) (xSet' : Nat → Int64) (yPair' : Nat → Int32) (ySet' : Nat → Int64), ob_R n d b m' res thr thn CL cOp cA cB OK oKin pVal' aOut aVar FC FA FP FH FT fSelf stk TA TH xFc xFs xPc' xKo' xPk' tw' tc' xSet' S XH xHeld yCo yAr M' yPair' ySet' yStay yHan yKept ∧ m' ≤ m + 1 ∧ (r = -2 ∨ r = 0 ∨ r = 1) ∧
      (∀ post : Int32 → SX → Prop, post r (nI n, nI d, nI b, deep, res, thr, thn, (fun zz => nI (CL zz)), cStr, cOp, cA, cB, (fun zz => nI (OK zz)), oKin, oOpen, xFc, xFs, xPc', xKo', xPk', (fun zz => ob_xa (tw' zz) (te' zz) (tc' zz)), pVal', xSet', (fun zz => nI (S zz)), aOut, aVar, (fun zz => nI (FC zz)), (fun zz => nI (FP zz)), (fun zz => nI (FA zz)), (fun zz => nI (FH zz)), (fun zz => nI (XH zz)), (fun zz => nI (FT zz)), fSelf, xHeld, stk, (fun zz => nI (TA zz)), (fun zz => nI (TH zz)), xArg) → wpX_defineProperty post (nI n, nI d, nI b, deep, res, thr, thn, (fun zz => nI (CL zz)), cStr, cOp, cA, cB, (fun zz => nI (OK zz)), oKin, oOpen, xFc, xFs, xPc, xKo, xPk, (fun zz => ob_xa (tw zz) (te zz) (tc zz)), pVal, xSet, (fun zz => nI (S zz)), aOut, aVar, (fun zz => nI (FC zz)), (fun zz => nI (FP zz)), (fun zz => nI (FA zz)), (fun zz => nI (FH zz)), (fun zz => nI (XH zz)), (fun zz => nI (FT zz)), fSelf, xHeld, stk, (fun zz => nI (TA zz)), (fun zz => nI (TH zz)), xArg) (nI o) (nI k) (ob_xs sV sG sS sW sE sC oW oE oC) v w) ∧
      (∀ post : Int32 → SY → Prop, post r (nI n, nI m', yGiven, nI d, deep, nI b, thr, thn, res, cStr, (fun zz => nI (CL zz)), cOp, cA, cB, (fun zz => nI (OK zz)), oKin, yCo, yAr, oOpen, (fun zz => nI (M' zz)), (fun zz => ob_yf (tw' zz) (te' zz) (tc' zz)), yPair', ySeen, pVal', ySet', (fun zz => ob_th (S zz)), yStay, aOut, aVar, yArg, (fun zz => nI (FC zz)), (fun zz => nI (FA zz)), (fun zz => nI (FP zz)), (fun zz => nI (FH zz)), yHan, (fun zz => nI (FT zz)), (fun zz => nI (TA zz)), (fun zz => nI (TH zz)), fSelf, yKept, stk) → wpY_settle post (nI n, nI m, yGiven, nI d, deep, nI b, thr, thn, res, cStr, (fun zz => nI (CL zz)), cOp, cA, cB, (fun zz => nI (OK zz)), oKin, yCo, yAr, oOpen, (fun zz => nI (M zz)), (fun zz => ob_yf (tw zz) (te zz) (tc zz)), yPair, ySeen, pVal, ySet, (fun zz => ob_th (S zz)), yStay, aOut, aVar, yArg, (fun zz => nI (FC zz)), (fun zz => nI (FA zz)), (fun zz => nI (FP zz)), (fun zz => nI (FH zz)), yHan, (fun zz => nI (FT zz)), (fun zz => nI (TA zz)), (fun zz => nI (TH zz)), fSelf, yKept, stk) (nI o) (nI k) (ob_ys sV sG sS sW sE sC) (ob_yf pW pE pC) v wy) := by
  obtain ⟨hC, hO, hP, hL, hY, hA, hF, hT⟩ := R
  by_cases hns : OK o = 1 ∧ k = 16 ∧ sV = true
  · obtain ⟨h1, rfl, rfl⟩ := hns
    obtain ⟨r, m', M', xPc', xKo', pVal', xPk', tw', te', tc', xSet', yPair', ySet', g1, g2, g3, g4, g5, g6, g7⟩ := ob_settleS (n := n) (d := d) (b := b) (m := m) (deep := deep) (res := res) (thr := thr) (thn := thn) (CL := CL) (cStr := cStr) (cOp := cOp) (cA := cA) (cB := cB) (OK := OK) (oKin := oKin) (oOpen := oOpen) (pVal := pVal) (aOut := aOut) (aVar := aVar) (FC := FC) (FA := FA) (FP := FP) (FH := FH) (FT := FT) (fSelf := fSelf) (stk := stk) (TA := TA) (TH := TH) (xFc := xFc) (xFs := xFs) (xPc := xPc) (xKo := xKo) (xPk := xPk) (tw := tw) (te := te) (tc := tc) (xSet := xSet) (S := S) (XH := XH) (xHeld := xHeld) (xArg := xArg) (yCo := yCo) (yAr := yAr) (M := M) (yPair := yPair) (ySeen := ySeen) (ySet := ySet) (yStay := yStay) (yArg := yArg) (yHan := yHan) (yKept := yKept) (yGiven := yGiven) (sG := sG) (sS := sS) (sW := sW) (sE := sE) (sC := sC) (oW := oW) (oE := oE) (oC := oC) (v := v) (w := w) (wy := wy) hpo hO hP hL hY ho hm hDA hw h1
    exact ⟨r, m', M', xPc', xKo', pVal', xPk', tw', te', tc', xSet', yPair', ySet', ⟨hC, hO, g1, g2, g3, hA, hF, hT⟩, g4, g5, g6, g7⟩
  · obtain ⟨r, m', M', xPc', xKo', pVal', xPk', tw', te', tc', xSet', yPair', ySet', g1, g2, g3, g4, g5, g6, g7⟩ := ob_settleN (n := n) (d := d) (b := b) (m := m) (deep := deep) (res := res) (thr := thr) (thn := thn) (CL := CL) (cStr := cStr) (cOp := cOp) (cA := cA) (cB := cB) (OK := OK) (oKin := oKin) (oOpen := oOpen) (pVal := pVal) (aOut := aOut) (aVar := aVar) (FC := FC) (FA := FA) (FP := FP) (FH := FH) (FT := FT) (fSelf := fSelf) (stk := stk) (TA := TA) (TH := TH) (xFc := xFc) (xFs := xFs) (xPc := xPc) (xKo := xKo) (xPk := xPk) (tw := tw) (te := te) (tc := tc) (xSet := xSet) (S := S) (XH := XH) (xHeld := xHeld) (xArg := xArg) (yCo := yCo) (yAr := yAr) (M := M) (yPair := yPair) (ySeen := ySeen) (ySet := ySet) (yStay := yStay) (yArg := yArg) (yHan := yHan) (yKept := yKept) (yGiven := yGiven) (sV := sV) (sG := sG) (sS := sS) (sW := sW) (sE := sE) (sC := sC) (oW := oW) (oE := oE) (oC := oC) (v := v) (w := w) (wy := wy) hpo hO hP hL hY ho hk hm hDA hv hw hns
    exact ⟨r, m', M', xPc', xKo', pVal', xPk', tw', te', tc', xSet', yPair', ySet', ⟨hC, hO, g1, g2, g3, hA, hF, hT⟩, g4, g5, g6, g7⟩
end
