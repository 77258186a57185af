/-! ===== FUNCTION, and an array's elements ===== -/
theorem ob_th_keep {S : Nat → Nat} {a : Nat} (h : S a ≠ 0) : (fun zz => ob_th (ob_um S a 2 zz)) = fun zz => ob_th (S zz) := by
  funext z
  unfold ob_um
  split
  · rename_i e
    rw [e]
    unfold ob_th
    rw [if_neg (by decide), if_neg h]
  · rfl
theorem ob_ucL {f : Nat → Int64} {i j : Nat} {x y : Int64} (h : i ≠ j) : vp_updL (vp_updL f j y) i x = vp_updL (vp_updL f i x) j y := by
  funext q
  unfold vp_updL
  by_cases h1 : q = i
  · rw [if_pos h1]
    by_cases h2 : q = j
    · omega
    · rw [if_neg h2, if_pos h1]
  · rw [if_neg h1]
    by_cases h2 : q = j
    · rw [if_pos h2, if_pos h2]
    · rw [if_neg h2, if_neg h2, if_neg h1]
section
variable {n : Nat} {d : Nat} {b : Nat} {m : Nat} {deep : Int32} {res : Int64} {thr : Int32} {thn : Int64} {CL : Nat → Nat} {cStr : Nat → Int32} {cOp : Nat → Int32} {cA : Nat → Int32} {cB : Nat → Int32} {OK : Nat → Nat} {oKin : Nat → Int32} {oOpen : Nat → Int32} {pVal : Nat → Int64} {aOut : Nat → Int32} {aVar : Nat → Int64} {FC : Nat → Nat} {FA : Nat → Nat} {FP : Nat → Nat} {FH : Nat → Nat} {FT : Nat → Nat} {fSelf : Nat → Int64} {stk : Nat → Int64} {TA : Nat → Nat} {TH : Nat → Nat} {xFc : Nat → Int32} {xFs : Nat → Int32} {xPc : Nat → Int32} {xKo : Nat → Int32} {xPk : Nat → Int32} {tw : Nat → Bool} {te : Nat → Bool} {tc : Nat → Bool} {xSet : Nat → Int64} {S : Nat → Nat} {XH : Nat → Nat} {xHeld : Nat → Int64} {xArg : Nat → Int64} {yCo : Nat → Int32} {yAr : Nat → Int32} {M : Nat → Nat} {yPair : Nat → Int32} {ySeen : Nat → Int32} {ySet : Nat → Int64} {yStay : Nat → Int32} {yArg : Nat → Int64} {yHan : Nat → Int32} {yKept : Nat → Int64} {yGiven : Int32}
variable {e k o c kd B w : Nat} {a bb pr : Int32}
theorem ob_keepR (R : ob_R n (e+1) b m res thr thn CL cOp cA cB OK oKin pVal aOut aVar FC FA FP FH FT fSelf stk TA TH xFc xFs xPc xKo xPk tw tc xSet S XH xHeld yCo yAr M yPair ySet yStay yHan yKept) : ob_R n (e+1) b m res thr thn CL cOp cA cB OK oKin pVal aOut aVar FC FA FP FH FT fSelf stk TA TH xFc xFs xPc xKo xPk tw tc xSet (ob_um S (FA e) 2) XH xHeld yCo yAr M yPair ySet (upd yStay (FA e) 1) yHan yKept := by
  obtain ⟨he, ha, hS⟩ := ob_actQ R
  obtain ⟨hC, hO, hP, hL, hY, hA, hF, hT⟩ := R
  refine ⟨hC, hO, hP, hL, hY, ob_gA_keep hA ha hS, ob_gF_S hF (fun f hf h => ?_), hT⟩
  unfold ob_um
  split
  · decide
  · exact h
theorem ob_op16 (R : ob_R n (e+1) b m res thr thn CL cOp cA cB OK oKin pVal aOut aVar FC FA FP FH FT fSelf stk TA TH xFc xFs xPc xKo xPk tw tc xSet S XH xHeld yCo yAr M yPair ySet yStay yHan yKept) (hm : m + 5 ≤ B) (hw : 4 * (e + 1) + ob_hs XH (e + 1) ≤ w) (hc : c ≤ 7) :
    ∃ u' v', ob_S b B (w + 4) u' v' ∧ (∀ post : SX → Prop, post u' → wpX_makeOp post (nI n, nI (e+1), nI b, deep, res, thr, thn, (fun zz => nI (CL zz)), cStr, cOp, cA, cB, (fun zz => nI (OK zz)), oKin, oOpen, xFc, xFs, xPc, xKo, xPk, (fun zz => ob_xa (tw zz) (te zz) (tc zz)), pVal, xSet, (fun zz => nI (S zz)), aOut, aVar, (fun zz => nI (FC zz)), (fun zz => nI (FP zz)), (fun zz => nI (FA zz)), (fun zz => nI (FH zz)), (fun zz => nI (XH zz)), (fun zz => nI (FT zz)), fSelf, xHeld, stk, (fun zz => nI (TA zz)), (fun zz => nI (TH zz)), xArg) 16 (nI c)) ∧ (∀ post : SY → Prop, post v' → wpY_build post (nI n, nI m, yGiven, nI (e+1), deep, nI b, thr, thn, res, cStr, (fun zz => nI (CL zz)), cOp, cA, cB, (fun zz => nI (OK zz)), oKin, yCo, yAr, oOpen, (fun zz => nI (M zz)), (fun zz => ob_yf (tw zz) (te zz) (tc zz)), yPair, ySeen, pVal, ySet, (fun zz => ob_th (S zz)), yStay, aOut, aVar, yArg, (fun zz => nI (FC zz)), (fun zz => nI (FA zz)), (fun zz => nI (FP zz)), (fun zz => nI (FH zz)), yHan, (fun zz => nI (FT zz)), (fun zz => nI (TA zz)), (fun zz => nI (TH zz)), fSelf, yKept, stk) 16 (nI c)) := by
  obtain ⟨he, ha, hS⟩ := ob_actQ R
  have hn := R.2.1.1.2
  have h3 := R.2.1.1.1
  by_cases h32 : n = 32
  · refine ⟨_, _, ob_S_mk (deep := deep) (cStr := cStr) (oOpen := oOpen) (te := te) (xArg := xArg) (ySeen := ySeen) (yArg := yArg) (yGiven := yGiven) (ob_raise R (ob_V_Ra n)) (by omega : m ≤ B) (by omega), fun post hp => ?_, fun post hp => ?_⟩
    · unfold wpX_makeOp
      refine br_f (by decide) (br_f (by decide) (br_f (by decide) (br_f (by decide) (br_t rfl ?_))))
      unfold wpX_makeFunction wpX_newFunction
      simp (disch := first | omega | decide) only [forall_eq, not_true, not_false_iff, false_implies, true_implies, true_and, and_true, ob_sub1, Nat.add_sub_cancel, nI_1, ob_ix, ob_iy, ob_ix24, ob_iy24, ob_ix10, ob_iy10, ob_ix4, ob_iy4, ob_ix3, ob_iy3, ob_s1, ob_s2, ob_s3, ob_s4, ob_ltl, ob_lel, ob_eql, ob_ltr, ob_ler, ob_uN, Nat.add_one_ne_zero, ob_xs3, ob_lnn, ob_ltn, ob_eqn, Nat.not_lt_zero, Nat.zero_le, Nat.reduceEqDiff, Nat.reduceLeDiff, Nat.reduceLT, ob_eqll, Int32.reduceLT, Int32.reduceLE, eq_self_iff_true]
      refine ob_newXf h32 _ ?_
      refine br_t (by decide) (br_t (by decide) ?_)
      unfold wX_makeFunction_30 wpX_pushNew
      exact br_f (by decide) hp
    · unfold wpY_build
      refine br_f (by decide) (nm_e ⟨1, ?_⟩)
      unfold wY_build_17
      exact br_t (by decide) (br_t (by rw [h32]; rfl) hp)
  · have R1 := ob_newR (kd := 2) (pr := 1) (xFc' := upd xFc n (nI c)) (xFs' := upd xFs n (nI (FA e))) (yCo' := upd yCo n (nI c)) (yAr' := upd yAr n (nI (FA e))) (ob_keepR R) (by omega) (Or.inr ⟨1, by omega, rfl⟩) (by decide) (by decide) (fun q hq => ⟨pk_un (by omega), pk_un (by omega), pk_un (by omega), pk_un (by omega)⟩) (fun _ => ⟨by rw [pk_us, pk_us], ⟨c, by omega, pk_us⟩, by rw [pk_us, pk_us], by rw [pk_us]; exact Or.inr ⟨FA e, ha, rfl, ob_um_s _ _ _⟩⟩)
    obtain ⟨res', thr', thn', FH', stk', R2, hXp, hYp⟩ := ob_push (deep := deep) (cStr := cStr) (oOpen := (upd oOpen n 1)) (te := te) (xArg := xArg) (ySeen := ySeen) (yArg := yArg) (yGiven := yGiven) R1 (ob_V_o (o := n) (by omega))
    refine ⟨_, _, ob_S_mk (deep := deep) (cStr := cStr) (oOpen := (upd oOpen n 1)) (te := te) (xArg := xArg) (ySeen := ySeen) (yArg := yArg) (yGiven := yGiven) R2 (by omega : m ≤ B) (by omega), fun post hp => ?_, fun post hp => ?_⟩
    · unfold wpX_makeOp
      refine br_f (by decide) (br_f (by decide) (br_f (by decide) (br_f (by decide) (br_t rfl ?_))))
      unfold wpX_makeFunction wpX_newFunction
      simp (disch := first | omega | decide) only [forall_eq, not_true, not_false_iff, false_implies, true_implies, true_and, and_true, ob_sub1, Nat.add_sub_cancel, nI_1, ob_ix, ob_iy, ob_ix24, ob_iy24, ob_ix10, ob_iy10, ob_ix4, ob_iy4, ob_ix3, ob_iy3, ob_s1, ob_s2, ob_s3, ob_s4, ob_ltl, ob_lel, ob_eql, ob_ltr, ob_ler, ob_uN, Nat.add_one_ne_zero, ob_xs3, ob_lnn, ob_ltn, ob_eqn, Nat.not_lt_zero, Nat.zero_le, Nat.reduceEqDiff, Nat.reduceLeDiff, Nat.reduceLT, ob_eqll, Int32.reduceLT, Int32.reduceLE, eq_self_iff_true]
      refine ob_newX (kd := 2) (by omega) _ ?_
      refine br_f (nI_pos (by omega)) ?_
      simp (disch := first | omega | decide) only [ob_uN2, forall_eq, not_true, not_false_iff, false_implies, true_implies, true_and, and_true, ob_sub1, Nat.add_sub_cancel, nI_1, ob_ix, ob_iy, ob_ix24, ob_iy24, ob_ix10, ob_iy10, ob_ix4, ob_iy4, ob_ix3, ob_iy3, ob_s1, ob_s2, ob_s3, ob_s4, ob_ltl, ob_lel, ob_eql, ob_ltr, ob_ler, ob_uN, Nat.add_one_ne_zero, ob_xs3, ob_lnn, ob_ltn, ob_eqn, Nat.not_lt_zero, Nat.zero_le, Nat.reduceEqDiff, Nat.reduceLeDiff, Nat.reduceLT, ob_eqll, Int32.reduceLT, Int32.reduceLE, eq_self_iff_true]
      unfold wX_makeFunction_30 wpX_pushNew
      refine br_t (nI_pos' (by omega)) ?_
      rw [ob_obj_toI n (by omega)]
      exact hXp _ hp
    · unfold wpY_build
      refine br_f (by decide) (nm_e ⟨1, ?_⟩)
      unfold wY_build_17
      refine br_t (by decide) (br_f (fun z => h32 ((nI_eq (b := 32) (by omega) (by decide)).mp z)) (br_f (by decide) (br_f (by decide) ?_)))
      unfold wY_build_82
      refine ob_newY (kd := 2) (by omega) (by decide) (by decide) _ ⟨1, ?_⟩
      unfold wY_build_90 wY_build_144 wY_build_176 wY_build_195
      refine br_t (by decide) (br_f (by decide) ?_)
      rw [ob_th_keep hS] at hYp hp
      simp (disch := first | omega | decide) only [ob_uu, pk_us, ob_nar1, ob_obj_toI, forall_eq, not_true, not_false_iff, false_implies, true_implies, true_and, and_true, ob_sub1, Nat.add_sub_cancel, nI_1, ob_ix, ob_iy, ob_ix24, ob_iy24, ob_ix10, ob_iy10, ob_ix4, ob_iy4, ob_ix3, ob_iy3, ob_s1, ob_s2, ob_s3, ob_s4, ob_ltl, ob_lel, ob_eql, ob_ltr, ob_ler, ob_uN, Nat.add_one_ne_zero, ob_xs3, ob_lnn, ob_ltn, ob_eqn, Nat.not_lt_zero, Nat.zero_le, Nat.reduceEqDiff, Nat.reduceLeDiff, Nat.reduceLT, ob_eqll, Int32.reduceLT, Int32.reduceLE, eq_self_iff_true]
      exact hYp _ hp
end
