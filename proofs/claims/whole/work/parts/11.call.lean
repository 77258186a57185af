/-! ===== a call begins: the new frame ===== -/
/-- the variables of activation a, the first i of them set -/
def ob_av (aVar arg : Nat → Int64) (a c : Nat) : Nat → Nat → Int64
  | 0 => aVar
  | i + 1 => vp_updL (ob_av aVar arg a c i) (4 * a + i) (if i < c then arg i else 8589934592)
theorem ob_av_o {aVar arg : Nat → Int64} {a c : Nat} : ∀ {i j : Nat}, (j < 4 * a ∨ 4 * a + i ≤ j) → ob_av aVar arg a c i j = aVar j
  | 0, _, _ => rfl
  | i + 1, j, h => by
    show vp_updL _ _ _ j = _
    rw [pk_uLn (by omega)]
    exact ob_av_o (by omega)
theorem ob_av_V {aVar arg : Nat → Int64} {a c n : Nat} (h : ∀ k, k < c → ob_V n (arg k)) : ∀ {i k : Nat}, k < i → ob_V n (ob_av aVar arg a c i (4 * a + k))
  | 0, _, hk => absurd hk (by omega)
  | i + 1, k, hk => by
    show ob_V n (vp_updL _ _ _ _)
    rw [ob_uaL]
    split
    · split
      · rename_i z; exact h i z
      · exact ob_V_U n
    · exact ob_av_V h (by omega)
theorem ob_um0 (F : Nat → Nat) (i x : Nat) : (fun zz => nI (ob_um F i x zz)) = fun zz => nI (ob_um F i x zz) := rfl
section
variable {n : Nat} {d : Nat} {b : Nat} {m : Nat} {deep : Int32} {res : Int64} {thr : Int32} {thn : Int64} {CL : Nat → Nat} {cStr : Nat → Int32} {cOp : Nat → Int32} {cA : Nat → Int32} {cB : Nat → Int32} {OK : Nat → Nat} {oKin : Nat → Int32} {oOpen : Nat → Int32} {pVal : Nat → Int64} {aOut : Nat → Int32} {aVar : Nat → Int64} {FC : Nat → Nat} {FA : Nat → Nat} {FP : Nat → Nat} {FH : Nat → Nat} {FT : Nat → Nat} {fSelf : Nat → Int64} {stk : Nat → Int64} {TA : Nat → Nat} {TH : Nat → Nat} {xFc : Nat → Int32} {xFs : Nat → Int32} {xPc : Nat → Int32} {xKo : Nat → Int32} {xPk : Nat → Int32} {tw : Nat → Bool} {te : Nat → Bool} {tc : Nat → Bool} {xSet : Nat → Int64} {S : Nat → Nat} {XH : Nat → Nat} {xHeld : Nat → Int64} {xArg : Nat → Int64} {yCo : Nat → Int32} {yAr : Nat → Int32} {M : Nat → Nat} {yPair : Nat → Int32} {ySeen : Nat → Int32} {ySet : Nat → Int64} {yStay : Nat → Int32} {yArg : Nat → Int64} {yHan : Nat → Int32} {yKept : Nat → Int64} {yGiven : Int32}
variable {e a c t o cc : Nat} {self held kept : Int64} {deep' : Int32}
theorem ob_bcX (hd : d < 6) (ho : o < 32) (ha : a < 24) (hcc : xFc o = nI cc) (hc : c ≤ 4) (hdeep : deep' = if nI (d + 1) ≤ deep then deep else nI (d + 1)) (post : SX → Prop)
    (hp : post (nI n, nI (d+1), nI b, deep', res, thr, thn, (fun zz => nI (CL zz)), cStr, cOp, cA, cB, (fun zz => nI (OK zz)), oKin, oOpen, xFc, xFs, xPc, xKo, xPk, (fun zz => ob_xa (tw zz) (te zz) (tc zz)), pVal, xSet, (fun zz => nI (S zz)), aOut, (ob_av aVar xArg a c 4), (fun zz => nI ((ob_um FC d cc) zz)), (fun zz => nI ((ob_um FP d 0) zz)), (fun zz => nI ((ob_um FA d a) zz)), (fun zz => nI ((ob_um FH d 0) zz)), (fun zz => nI ((ob_um XH d 0) zz)), (fun zz => nI ((ob_um FT d t) zz)), (vp_updL fSelf d self), (vp_updL xHeld d held), stk, (fun zz => nI (TA zz)), (fun zz => nI (TH zz)), xArg)) :
    ∀ j i, j + i = 4 → wX_beginCall_84 post self (nI c) (nI t) held (nI o) (nI a) (nI n) (nI d) (nI b) deep res thr thn (j + 1) (nI i) (fun zz => nI (CL zz)) cStr cOp cA cB (fun zz => nI (OK zz)) oKin oOpen xFc xFs xPc xKo xPk (fun zz => ob_xa (tw zz) (te zz) (tc zz)) pVal xSet (fun zz => nI (S zz)) aOut (ob_av aVar xArg a c i) (fun zz => nI (FC zz)) (fun zz => nI (FP zz)) (fun zz => nI (FA zz)) (fun zz => nI (FH zz)) (fun zz => nI (XH zz)) (fun zz => nI (FT zz)) fSelf xHeld stk (fun zz => nI (TA zz)) (fun zz => nI (TH zz)) xArg
  | 0, i, e => by
    have e' : i = 4 := by omega
    subst e'
    unfold wX_beginCall_84
    have h4 : 4 ≤ 4 := Nat.le_refl 4
    simp (disch := first | omega | decide) only [h4, hcc, ob_uN0, forall_eq, not_true, not_false_iff, false_implies, true_implies, true_and, and_true, ob_sub1, Nat.add_sub_cancel, nI_1, ob_ix, ob_iy, ob_ix24, ob_iy24, ob_ix10, ob_iy10, ob_ix4, ob_iy4, ob_ix3, ob_iy3, ob_s1, ob_s2, ob_s3, ob_s4, ob_ltl, ob_lel, ob_eql, ob_ltr, ob_ler, ob_uN, Nat.add_one_ne_zero, ob_xs3, ob_lnn, ob_ltn, ob_eqn, Nat.not_lt_zero, Nat.zero_le, Nat.reduceEqDiff, Nat.reduceLeDiff, Nat.reduceLT, ob_eqll, Int32.reduceLT, Int32.reduceLE, eq_self_iff_true]
    by_cases z : nI (d + 1) ≤ deep
    · rw [if_pos z] at hdeep
      subst hdeep
      exact br_t z hp
    · rw [if_neg z] at hdeep
      subst hdeep
      exact br_f z hp
  | j + 1, i, e => by
    have ih := ob_bcX hd ho ha hcc hc hdeep post hp j (i + 1) (by omega)
    have h4 : ¬ 4 ≤ i := by omega
    unfold wX_beginCall_84
    simp (disch := first | omega | decide) only [h4, forall_eq, not_true, not_false_iff, false_implies, true_implies, true_and, and_true, ob_sub1, Nat.add_sub_cancel, nI_1, ob_ix, ob_iy, ob_ix24, ob_iy24, ob_ix10, ob_iy10, ob_ix4, ob_iy4, ob_ix3, ob_iy3, ob_s1, ob_s2, ob_s3, ob_s4, ob_ltl, ob_lel, ob_eql, ob_ltr, ob_ler, ob_uN, Nat.add_one_ne_zero, ob_xs3, ob_lnn, ob_ltn, ob_eqn, Nat.not_lt_zero, Nat.zero_le, Nat.reduceEqDiff, Nat.reduceLeDiff, Nat.reduceLT, ob_eqll, Int32.reduceLT, Int32.reduceLE, eq_self_iff_true]
    by_cases z : c ≤ i
    · have z' : ¬ i < c := by omega
      simp only [ob_av, if_neg z'] at ih
      simp (disch := first | omega | decide) only [z, forall_eq, not_true, not_false_iff, false_implies, true_implies, true_and, and_true, ob_sub1, Nat.add_sub_cancel, nI_1, ob_ix, ob_iy, ob_ix24, ob_iy24, ob_ix10, ob_iy10, ob_ix4, ob_iy4, ob_ix3, ob_iy3, ob_s1, ob_s2, ob_s3, ob_s4, ob_ltl, ob_lel, ob_eql, ob_ltr, ob_ler, ob_uN, Nat.add_one_ne_zero, ob_xs3, ob_lnn, ob_ltn, ob_eqn, Nat.not_lt_zero, Nat.zero_le, Nat.reduceEqDiff, Nat.reduceLeDiff, Nat.reduceLT, ob_eqll, Int32.reduceLT, Int32.reduceLE, eq_self_iff_true]
      exact ih
    · have z' : i < c := by omega
      simp only [ob_av, if_pos z'] at ih
      simp (disch := first | omega | decide) only [z, forall_eq, not_true, not_false_iff, false_implies, true_implies, true_and, and_true, ob_sub1, Nat.add_sub_cancel, nI_1, ob_ix, ob_iy, ob_ix24, ob_iy24, ob_ix10, ob_iy10, ob_ix4, ob_iy4, ob_ix3, ob_iy3, ob_s1, ob_s2, ob_s3, ob_s4, ob_ltl, ob_lel, ob_eql, ob_ltr, ob_ler, ob_uN, Nat.add_one_ne_zero, ob_xs3, ob_lnn, ob_ltn, ob_eqn, Nat.not_lt_zero, Nat.zero_le, Nat.reduceEqDiff, Nat.reduceLeDiff, Nat.reduceLT, ob_eqll, Int32.reduceLT, Int32.reduceLE, eq_self_iff_true]
      exact ih
theorem ob_enY (hd : d < 6) (ho : o < 32) (ha : a < 24) (hcc : yCo o = nI cc) (hc : c ≤ 4) (harg : ∀ k, k < c → yArg k = xArg k) (hdeep : deep' = if nI (d + 1) ≤ deep then deep else nI (d + 1)) (post : SY → Prop)
    (hp : post (nI n, nI m, (nI c), nI (d+1), deep', nI b, thr, thn, res, cStr, (fun zz => nI (CL zz)), cOp, cA, cB, (fun zz => nI (OK zz)), oKin, yCo, yAr, oOpen, (fun zz => nI (M zz)), (fun zz => ob_yf (tw zz) (te zz) (tc zz)), yPair, ySeen, pVal, ySet, (fun zz => ob_th (S zz)), yStay, aOut, (ob_av aVar xArg a c 4), yArg, (fun zz => nI ((ob_um FC d cc) zz)), (fun zz => nI ((ob_um FA d a) zz)), (fun zz => nI ((ob_um FP d 0) zz)), (fun zz => nI ((ob_um FH d 0) zz)), (upd yHan d 0), (fun zz => nI ((ob_um FT d t) zz)), (fun zz => nI (TA zz)), (fun zz => nI (TH zz)), (vp_updL fSelf d self), (vp_updL yKept d kept), stk)) :
    ∀ j i, j + i = 4 → wY_enter_120 post self (nI t) kept (nI o) (nI a) (nI d) (nI n) (nI m) (nI c) (nI (d+1)) deep (nI b) thr thn res (j + 1) (nI i) cStr (fun zz => nI (CL zz)) cOp cA cB (fun zz => nI (OK zz)) oKin yCo yAr oOpen (fun zz => nI (M zz)) (fun zz => ob_yf (tw zz) (te zz) (tc zz)) yPair ySeen pVal ySet (fun zz => ob_th (S zz)) yStay aOut (ob_av aVar xArg a c i) yArg (fun zz => nI (FC zz)) (fun zz => nI (FA zz)) (fun zz => nI (FP zz)) (fun zz => nI (FH zz)) yHan (fun zz => nI (FT zz)) (fun zz => nI (TA zz)) (fun zz => nI (TH zz)) fSelf yKept stk
  | 0, i, e => by
    have e' : i = 4 := by omega
    subst e'
    unfold wY_enter_120
    have h4 : 4 ≤ 4 := Nat.le_refl 4
    simp (disch := first | omega | decide) only [h4, hcc, ob_uN0, forall_eq, not_true, not_false_iff, false_implies, true_implies, true_and, and_true, ob_sub1, Nat.add_sub_cancel, nI_1, ob_ix, ob_iy, ob_ix24, ob_iy24, ob_ix10, ob_iy10, ob_ix4, ob_iy4, ob_ix3, ob_iy3, ob_s1, ob_s2, ob_s3, ob_s4, ob_ltl, ob_lel, ob_eql, ob_ltr, ob_ler, ob_uN, Nat.add_one_ne_zero, ob_xs3, ob_lnn, ob_ltn, ob_eqn, Nat.not_lt_zero, Nat.zero_le, Nat.reduceEqDiff, Nat.reduceLeDiff, Nat.reduceLT, ob_eqll, Int32.reduceLT, Int32.reduceLE, eq_self_iff_true]
    by_cases z : nI (d + 1) ≤ deep
    · rw [if_pos z] at hdeep
      subst hdeep
      exact br_t z hp
    · rw [if_neg z] at hdeep
      subst hdeep
      exact br_f z hp
  | j + 1, i, e => by
    have ih := ob_enY hd ho ha hcc hc harg hdeep post hp j (i + 1) (by omega)
    have h4 : ¬ 4 ≤ i := by omega
    unfold wY_enter_120
    simp (disch := first | omega | decide) only [h4, forall_eq, not_true, not_false_iff, false_implies, true_implies, true_and, and_true, ob_sub1, Nat.add_sub_cancel, nI_1, ob_ix, ob_iy, ob_ix24, ob_iy24, ob_ix10, ob_iy10, ob_ix4, ob_iy4, ob_ix3, ob_iy3, ob_s1, ob_s2, ob_s3, ob_s4, ob_ltl, ob_lel, ob_eql, ob_ltr, ob_ler, ob_uN, Nat.add_one_ne_zero, ob_xs3, ob_lnn, ob_ltn, ob_eqn, Nat.not_lt_zero, Nat.zero_le, Nat.reduceEqDiff, Nat.reduceLeDiff, Nat.reduceLT, ob_eqll, Int32.reduceLT, Int32.reduceLE, eq_self_iff_true]
    by_cases z : c ≤ i
    · have z' : ¬ i < c := by omega
      simp only [ob_av, if_neg z'] at ih
      simp (disch := first | omega | decide) only [z, forall_eq, not_true, not_false_iff, false_implies, true_implies, true_and, and_true, ob_sub1, Nat.add_sub_cancel, nI_1, ob_ix, ob_iy, ob_ix24, ob_iy24, ob_ix10, ob_iy10, ob_ix4, ob_iy4, ob_ix3, ob_iy3, ob_s1, ob_s2, ob_s3, ob_s4, ob_ltl, ob_lel, ob_eql, ob_ltr, ob_ler, ob_uN, Nat.add_one_ne_zero, ob_xs3, ob_lnn, ob_ltn, ob_eqn, Nat.not_lt_zero, Nat.zero_le, Nat.reduceEqDiff, Nat.reduceLeDiff, Nat.reduceLT, ob_eqll, Int32.reduceLT, Int32.reduceLE, eq_self_iff_true]
      exact ih
    · have z' : i < c := by omega
      simp only [ob_av, if_pos z'] at ih
      simp (disch := first | omega | decide) only [z, harg i z', forall_eq, not_true, not_false_iff, false_implies, true_implies, true_and, and_true, ob_sub1, Nat.add_sub_cancel, nI_1, ob_ix, ob_iy, ob_ix24, ob_iy24, ob_ix10, ob_iy10, ob_ix4, ob_iy4, ob_ix3, ob_iy3, ob_s1, ob_s2, ob_s3, ob_s4, ob_ltl, ob_lel, ob_eql, ob_ltr, ob_ler, ob_uN, Nat.add_one_ne_zero, ob_xs3, ob_lnn, ob_ltn, ob_eqn, Nat.not_lt_zero, Nat.zero_le, Nat.reduceEqDiff, Nat.reduceLeDiff, Nat.reduceLT, ob_eqll, Int32.reduceLT, Int32.reduceLE, eq_self_iff_true]
      exact ih
theorem ob_nar1t : vp_nar .boolean 1 = ob_th 1 := rfl
theorem ob_en71 (hd : d < 6) (ho : o < 32) (ha : a < 24) (h0 : S a = 0) (hq : ∀ q, q < a → S q ≠ 0) (hcc : yCo o = nI cc) (hc : c ≤ 4) (harg : ∀ k, k < c → yArg k = xArg k) (hdeep : deep' = if nI (d + 1) ≤ deep then deep else nI (d + 1)) (post : SY → Prop)
    (hp : post (nI n, nI m, (nI c), nI (d+1), deep', nI b, thr, thn, res, cStr, (fun zz => nI (CL zz)), cOp, cA, cB, (fun zz => nI (OK zz)), oKin, yCo, yAr, oOpen, (fun zz => nI (M zz)), (fun zz => ob_yf (tw zz) (te zz) (tc zz)), yPair, ySeen, pVal, ySet, (fun zz => ob_th ((ob_um S a 1) zz)), (upd yStay a 0), (upd aOut a (yAr o)), (ob_av aVar xArg a c 4), yArg, (fun zz => nI ((ob_um FC d cc) zz)), (fun zz => nI ((ob_um FA d a) zz)), (fun zz => nI ((ob_um FP d 0) zz)), (fun zz => nI ((ob_um FH d 0) zz)), (upd yHan d 0), (fun zz => nI ((ob_um FT d t) zz)), (fun zz => nI (TA zz)), (fun zz => nI (TH zz)), (vp_updL fSelf d self), (vp_updL yKept d kept), stk)) :
    ∀ j k, j + k = a → wY_enter_71 post self (nI t) kept (nI o) (nI d) (nI n) (nI m) (nI c) (nI (d+1)) deep (nI b) thr thn res cStr (fun zz => nI (CL zz)) cOp cA cB (fun zz => nI (OK zz)) oKin yCo yAr oOpen (fun zz => nI (M zz)) (fun zz => ob_yf (tw zz) (te zz) (tc zz)) yPair ySeen pVal ySet (fun zz => ob_th (S zz)) yStay aOut aVar yArg (fun zz => nI (FC zz)) (fun zz => nI (FA zz)) (fun zz => nI (FP zz)) (fun zz => nI (FH zz)) yHan (fun zz => nI (FT zz)) (fun zz => nI (TA zz)) (fun zz => nI (TH zz)) fSelf yKept stk (j + 1) (nI k)
  | 0, k, e => by
    have e' : k = a := by omega
    subst e'
    unfold wY_enter_71
    simp (disch := first | omega | decide) only [ob_th0, h0, ob_nar1t, ob_nar0, ob_uT, forall_eq, not_true, not_false_iff, false_implies, true_implies, true_and, and_true, ob_sub1, Nat.add_sub_cancel, nI_1, ob_ix, ob_iy, ob_ix24, ob_iy24, ob_ix10, ob_iy10, ob_ix4, ob_iy4, ob_ix3, ob_iy3, ob_s1, ob_s2, ob_s3, ob_s4, ob_ltl, ob_lel, ob_eql, ob_ltr, ob_ler, ob_uN, Nat.add_one_ne_zero, ob_xs3, ob_lnn, ob_ltn, ob_eqn, Nat.not_lt_zero, Nat.zero_le, Nat.reduceEqDiff, Nat.reduceLeDiff, Nat.reduceLT, ob_eqll, Int32.reduceLT, Int32.reduceLE, eq_self_iff_true]
    exact ⟨5, ob_enY hd ho ha hcc hc harg hdeep post hp 4 0 rfl⟩
  | j + 1, k, e => by
    have h2 := hq k (by omega)
    unfold wY_enter_71
    simp (disch := first | omega | decide) only [ob_th0, h2, forall_eq, not_true, not_false_iff, false_implies, true_implies, true_and, and_true, ob_sub1, Nat.add_sub_cancel, nI_1, ob_ix, ob_iy, ob_ix24, ob_iy24, ob_ix10, ob_iy10, ob_ix4, ob_iy4, ob_ix3, ob_iy3, ob_s1, ob_s2, ob_s3, ob_s4, ob_ltl, ob_lel, ob_eql, ob_ltr, ob_ler, ob_uN, Nat.add_one_ne_zero, ob_xs3, ob_lnn, ob_ltn, ob_eqn, Nat.not_lt_zero, Nat.zero_le, Nat.reduceEqDiff, Nat.reduceLeDiff, Nat.reduceLT, ob_eqll, Int32.reduceLT, Int32.reduceLE, eq_self_iff_true]
    exact ob_en71 hd ho ha h0 hq hcc hc harg hdeep post hp j (k + 1) (by omega)
/-- both sides begin a call: TYPE, RANGE, or a new frame -/
theorem ob_enter {fn : Int64} (R : ob_R n d b m res thr thn CL cOp cA cB OK oKin pVal aOut aVar FC FA FP FH FT fSelf stk TA TH xFc xFs xPc xKo xPk tw tc xSet S XH xHeld yCo yAr M yPair ySet yStay yHan yKept) (hres : res = 8589934592) (hf : ob_V n fn) (hs : ob_V n self) (ht : t ≤ 2) (hk : t ≠ 0 → held = kept ∧ ob_V n kept) (hc : c ≤ 4) (harg : ∀ k, k < c → yArg k = xArg k ∧ ob_V n (xArg k)) :
    ∃ d' deep' thr' thn' S' aOut' aVar' FC' FA' FP' FH' FT' fSelf' XH' yHan' xHeld' yKept' yStay',
    ob_R n d' b m res thr' thn' CL cOp cA cB OK oKin pVal aOut' aVar' FC' FA' FP' FH' FT' fSelf' stk TA TH xFc xFs xPc xKo xPk tw tc xSet S' XH' xHeld' yCo yAr M yPair ySet yStay' yHan' yKept' ∧
    4 * d' + ob_hs XH' d' ≤ 4 * d + ob_hs XH d + 4 ∧
    (∀ post, post (nI n, nI d', nI b, deep', res, thr', thn', (fun zz => nI (CL zz)), cStr, cOp, cA, cB, (fun zz => nI (OK zz)), oKin, oOpen, xFc, xFs, xPc, xKo, xPk, (fun zz => ob_xa (tw zz) (te zz) (tc zz)), pVal, xSet, (fun zz => nI (S' zz)), aOut', aVar', (fun zz => nI (FC' zz)), (fun zz => nI (FP' zz)), (fun zz => nI (FA' zz)), (fun zz => nI (FH' zz)), (fun zz => nI (XH' zz)), (fun zz => nI (FT' zz)), fSelf', xHeld', stk, (fun zz => nI (TA zz)), (fun zz => nI (TH zz)), xArg) → wpX_beginCall post (nI n, nI d, nI b, deep, res, thr, thn, (fun zz => nI (CL zz)), cStr, cOp, cA, cB, (fun zz => nI (OK zz)), oKin, oOpen, xFc, xFs, xPc, xKo, xPk, (fun zz => ob_xa (tw zz) (te zz) (tc zz)), pVal, xSet, (fun zz => nI (S zz)), aOut, aVar, (fun zz => nI (FC zz)), (fun zz => nI (FP zz)), (fun zz => nI (FA zz)), (fun zz => nI (FH zz)), (fun zz => nI (XH zz)), (fun zz => nI (FT zz)), fSelf, xHeld, stk, (fun zz => nI (TA zz)), (fun zz => nI (TH zz)), xArg) fn self (nI c) (nI t) held) ∧
    (∀ post, post (nI n, nI m, (nI c), nI d', deep', nI b, thr', thn', res, cStr, (fun zz => nI (CL zz)), cOp, cA, cB, (fun zz => nI (OK zz)), oKin, yCo, yAr, oOpen, (fun zz => nI (M zz)), (fun zz => ob_yf (tw zz) (te zz) (tc zz)), yPair, ySeen, pVal, ySet, (fun zz => ob_th (S' zz)), yStay', aOut', aVar', yArg, (fun zz => nI (FC' zz)), (fun zz => nI (FA' zz)), (fun zz => nI (FP' zz)), (fun zz => nI (FH' zz)), yHan', (fun zz => nI (FT' zz)), (fun zz => nI (TA zz)), (fun zz => nI (TH zz)), fSelf', yKept', stk) → wpY_enter post (nI n, nI m, (nI c), nI d, deep, nI b, thr, thn, res, cStr, (fun zz => nI (CL zz)), cOp, cA, cB, (fun zz => nI (OK zz)), oKin, yCo, yAr, oOpen, (fun zz => nI (M zz)), (fun zz => ob_yf (tw zz) (te zz) (tc zz)), yPair, ySeen, pVal, ySet, (fun zz => ob_th (S zz)), yStay, aOut, aVar, yArg, (fun zz => nI (FC zz)), (fun zz => nI (FA zz)), (fun zz => nI (FP zz)), (fun zz => nI (FH zz)), yHan, (fun zz => nI (FT zz)), (fun zz => nI (TA zz)), (fun zz => nI (TH zz)), fSelf, yKept, stk) fn self (nI t) kept) := by
  have hn : n ≤ 32 := R.2.1.1.2
  have hd6 : d ≤ 6 := R.2.2.2.2.2.2.1.1
  have hS2 : ∀ q, q < 24 → S q ≤ 2 := fun q hq => (R.2.2.2.2.2.1.2 q hq).1
  rcases ob_cls hf with hl | ⟨o, ho, rfl⟩
  · refine ⟨d, deep, 1, 8589934596, S, aOut, aVar, FC, FA, FP, FH, FT, fSelf, XH, yHan, xHeld, yKept, yStay, ob_raise R (ob_V_Ty n), by omega, fun post hp => ?_, fun post hp => ?_⟩
    · unfold wpX_beginCall
      exact ob_objN hl _ (br_t (by decide) hp)
    · unfold wpY_enter wpY_isFunction
      exact ob_isoF hl _ (br_t rfl (br_t rfl (br_t rfl hp)))
  · have hOK : OK o ≤ 2 := (R.2.1.2 o ho).1
    by_cases h2 : OK o = 2
    · have hYf : ∀ post : Int32 → Prop, post 1 → wpY_isFunction post (nI n, nI m, (nI c), nI d, deep, nI b, thr, thn, res, cStr, (fun zz => nI (CL zz)), cOp, cA, cB, (fun zz => nI (OK zz)), oKin, yCo, yAr, oOpen, (fun zz => nI (M zz)), (fun zz => ob_yf (tw zz) (te zz) (tc zz)), yPair, ySeen, pVal, ySet, (fun zz => ob_th (S zz)), yStay, aOut, aVar, yArg, (fun zz => nI (FC zz)), (fun zz => nI (FA zz)), (fun zz => nI (FP zz)), (fun zz => nI (FH zz)), yHan, (fun zz => nI (FT zz)), (fun zz => nI (TA zz)), (fun zz => nI (TH zz)), fSelf, yKept, stk) (lN (17179869184 + o)) := by
        intro post hp
        unfold wpY_isFunction
        refine ob_isoT o (by omega) _ ?_
        refine br_f (by decide) ?_
        unfold wpY_number
        rw [ob_numb]
        simp (disch := first | omega | decide) only [h2, forall_eq, not_true, not_false_iff, false_implies, true_implies, true_and, and_true, ob_sub1, Nat.add_sub_cancel, nI_1, ob_ix, ob_iy, ob_ix24, ob_iy24, ob_ix10, ob_iy10, ob_ix4, ob_iy4, ob_ix3, ob_iy3, ob_s1, ob_s2, ob_s3, ob_s4, ob_ltl, ob_lel, ob_eql, ob_ltr, ob_ler, ob_uN, Nat.add_one_ne_zero, ob_xs3, ob_lnn, ob_ltn, ob_eqn, Nat.not_lt_zero, Nat.zero_le, Nat.reduceEqDiff, Nat.reduceLeDiff, Nat.reduceLT, ob_eqll, Int32.reduceLT, Int32.reduceLE, eq_self_iff_true]
        exact hp
      have h10 : ¬ (1 : Int32) = 0 := by decide
      by_cases hd : d = 6
      · have h6 : 6 ≤ d := by omega
        refine ⟨d, deep, 1, 8589934597, S, aOut, aVar, FC, FA, FP, FH, FT, fSelf, XH, yHan, xHeld, yKept, yStay, ob_raise R (ob_V_Ra n), by omega, fun post hp => ?_, fun post hp => ?_⟩
        · unfold wpX_beginCall
          refine ob_objO hn ho _ ?_
          simp (disch := first | omega | decide) only [h2, h6, forall_eq, not_true, not_false_iff, false_implies, true_implies, true_and, and_true, ob_sub1, Nat.add_sub_cancel, nI_1, ob_ix, ob_iy, ob_ix24, ob_iy24, ob_ix10, ob_iy10, ob_ix4, ob_iy4, ob_ix3, ob_iy3, ob_s1, ob_s2, ob_s3, ob_s4, ob_ltl, ob_lel, ob_eql, ob_ltr, ob_ler, ob_uN, Nat.add_one_ne_zero, ob_xs3, ob_lnn, ob_ltn, ob_eqn, Nat.not_lt_zero, Nat.zero_le, Nat.reduceEqDiff, Nat.reduceLeDiff, Nat.reduceLT, ob_eqll, Int32.reduceLT, Int32.reduceLE, eq_self_iff_true]
          rcases ob_free S 24 with h | ⟨a, ha, h0, h⟩
          · exact ob_freeN h hS2 _ hp
          · exact ob_freeX ha h0 h hS2 _ hp
        · unfold wpY_enter
          refine hYf _ ?_
          exact br_f h10 (br_t (by rw [hd]; rfl) (br_f h10 hp))
      · have hd6' : ¬ nI d = 6 := fun z => hd ((nI_eq (b := 6) (by omega) (by decide)).mp z)
        have hd6'' : ¬ 6 ≤ d := by omega
        rcases ob_free S 24 with h | ⟨a, ha, h0, h⟩
        · refine ⟨d, deep, 1, 8589934597, S, aOut, aVar, FC, FA, FP, FH, FT, fSelf, XH, yHan, xHeld, yKept, yStay, ob_raise R (ob_V_Ra n), by omega, fun post hp => ?_, fun post hp => ?_⟩
          · unfold wpX_beginCall
            refine ob_objO hn ho _ ?_
            simp (disch := first | omega | decide) only [h2, hd6'', forall_eq, not_true, not_false_iff, false_implies, true_implies, true_and, and_true, ob_sub1, Nat.add_sub_cancel, nI_1, ob_ix, ob_iy, ob_ix24, ob_iy24, ob_ix10, ob_iy10, ob_ix4, ob_iy4, ob_ix3, ob_iy3, ob_s1, ob_s2, ob_s3, ob_s4, ob_ltl, ob_lel, ob_eql, ob_ltr, ob_ler, ob_uN, Nat.add_one_ne_zero, ob_xs3, ob_lnn, ob_ltn, ob_eqn, Nat.not_lt_zero, Nat.zero_le, Nat.reduceEqDiff, Nat.reduceLeDiff, Nat.reduceLT, ob_eqll, Int32.reduceLT, Int32.reduceLE, eq_self_iff_true]
            exact ob_freeN h hS2 _ (br_f (by decide) hp)
          · unfold wpY_enter
            refine hYf _ ?_
            refine br_f h10 (br_f hd6' ?_)
            refine ob_actsY _ ?_
            rw [ob_cnt_all h]
            exact br_t rfl (br_f h10 hp)
        · obtain ⟨hC, hO, hP, hL, hY, hA, hF, hT⟩ := R
          obtain ⟨g1, ⟨cc, hcc, g2⟩, g3, g4⟩ := hA.1 o ho h2
          have hdeep : (if nI (d + 1) ≤ deep then deep else nI (d + 1)) = if nI (d + 1) ≤ deep then deep else nI (d + 1) := rfl
          refine ⟨d + 1, if nI (d + 1) ≤ deep then deep else nI (d + 1), thr, thn, ob_um S a 1, upd aOut a (yAr o), ob_av aVar xArg a c 4, ob_um FC d cc, ob_um FA d a, ob_um FP d 0, ob_um FH d 0, ob_um FT d t, vp_updL fSelf d self, ob_um XH d 0, upd yHan d 0, vp_updL xHeld d held, vp_updL yKept d kept, upd yStay a 0,
            ⟨hC, hO, hP, hL, hY, ob_gA_enter hA h0 g4 (fun k hk => ob_av_V (fun k hk => (harg k hk).2) hk) (fun q k hq hk => ob_av_o (by omega)), ob_gF_enter hF (by omega) hcc ha h0 (by decide) ht hs hk, hT.1, hT.2.1, fun _ => hres⟩, ?_, fun post hp => ?_, fun post hp => ?_⟩
          · show 4 * (d + 1) + (ob_hs (ob_um XH d 0) d + ob_um XH d 0 d) ≤ _
            rw [ob_hs_u, ob_um_s]
            omega
          · unfold wpX_beginCall
            refine ob_objO hn ho _ ?_
            simp (disch := first | omega | decide) only [h2, hd6'', forall_eq, not_true, not_false_iff, false_implies, true_implies, true_and, and_true, ob_sub1, Nat.add_sub_cancel, nI_1, ob_ix, ob_iy, ob_ix24, ob_iy24, ob_ix10, ob_iy10, ob_ix4, ob_iy4, ob_ix3, ob_iy3, ob_s1, ob_s2, ob_s3, ob_s4, ob_ltl, ob_lel, ob_eql, ob_ltr, ob_ler, ob_uN, Nat.add_one_ne_zero, ob_xs3, ob_lnn, ob_ltn, ob_eqn, Nat.not_lt_zero, Nat.zero_le, Nat.reduceEqDiff, Nat.reduceLeDiff, Nat.reduceLT, ob_eqll, Int32.reduceLT, Int32.reduceLE, eq_self_iff_true]
            refine ob_freeX ha h0 h hS2 _ ?_
            simp (disch := first | omega | decide) only [ob_uN1, g3, forall_eq, not_true, not_false_iff, false_implies, true_implies, true_and, and_true, ob_sub1, Nat.add_sub_cancel, nI_1, ob_ix, ob_iy, ob_ix24, ob_iy24, ob_ix10, ob_iy10, ob_ix4, ob_iy4, ob_ix3, ob_iy3, ob_s1, ob_s2, ob_s3, ob_s4, ob_ltl, ob_lel, ob_eql, ob_ltr, ob_ler, ob_uN, Nat.add_one_ne_zero, ob_xs3, ob_lnn, ob_ltn, ob_eqn, Nat.not_lt_zero, Nat.zero_le, Nat.reduceEqDiff, Nat.reduceLeDiff, Nat.reduceLT, ob_eqll, Int32.reduceLT, Int32.reduceLE, eq_self_iff_true]
            exact ⟨5, ob_bcX (by omega) (by omega) ha (g1.trans g2) hc hdeep post hp 4 0 rfl⟩
          · unfold wpY_enter
            refine hYf _ ?_
            refine br_f h10 (br_f hd6' ?_)
            refine ob_actsY _ ?_
            have hlt := ob_cnt_lt h0 ha
            refine br_f (fun z => ?_) ?_
            · have := (nI_eq (b := 24) (by omega) (by decide)).mp z
              omega
            · unfold wpY_number
              rw [ob_numb, nI_1]
              exact nm_e ⟨a + 1, ob_en71 (by omega) (by omega) ha h0 h g2 hc (fun k hk => (harg k hk).1) hdeep post hp a 0 rfl⟩
    · refine ⟨d, deep, 1, 8589934596, S, aOut, aVar, FC, FA, FP, FH, FT, fSelf, XH, yHan, xHeld, yKept, yStay, ob_raise R (ob_V_Ty n), by omega, fun post hp => ?_, fun post hp => ?_⟩
      · unfold wpX_beginCall
        refine ob_objO hn ho _ ?_
        simp (disch := first | omega | decide) only [h2, forall_eq, not_true, not_false_iff, false_implies, true_implies, true_and, and_true, ob_sub1, Nat.add_sub_cancel, nI_1, ob_ix, ob_iy, ob_ix24, ob_iy24, ob_ix10, ob_iy10, ob_ix4, ob_iy4, ob_ix3, ob_iy3, ob_s1, ob_s2, ob_s3, ob_s4, ob_ltl, ob_lel, ob_eql, ob_ltr, ob_ler, ob_uN, Nat.add_one_ne_zero, ob_xs3, ob_lnn, ob_ltn, ob_eqn, Nat.not_lt_zero, Nat.zero_le, Nat.reduceEqDiff, Nat.reduceLeDiff, Nat.reduceLT, ob_eqll, Int32.reduceLT, Int32.reduceLE, eq_self_iff_true]
        exact hp
      · unfold wpY_enter wpY_isFunction
        refine ob_isoT o (by omega) _ ?_
        refine br_f (by decide) ?_
        unfold wpY_number
        rw [ob_numb]
        simp (disch := first | omega | decide) only [h2, forall_eq, not_true, not_false_iff, false_implies, true_implies, true_and, and_true, ob_sub1, Nat.add_sub_cancel, nI_1, ob_ix, ob_iy, ob_ix24, ob_iy24, ob_ix10, ob_iy10, ob_ix4, ob_iy4, ob_ix3, ob_iy3, ob_s1, ob_s2, ob_s3, ob_s4, ob_ltl, ob_lel, ob_eql, ob_ltr, ob_ler, ob_uN, Nat.add_one_ne_zero, ob_xs3, ob_lnn, ob_ltn, ob_eqn, Nat.not_lt_zero, Nat.zero_le, Nat.reduceEqDiff, Nat.reduceLeDiff, Nat.reduceLT, ob_eqll, Int32.reduceLT, Int32.reduceLE, eq_self_iff_true]
        exact br_t rfl hp
end
