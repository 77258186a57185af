/-! ===== ARRAY ===== -/
section
variable {n : Nat} {d : Nat} {b : Nat} {m : Nat} {deep : Int32} {res : Int64} {thr : Int32} {thn : Int64} {CL : Nat → Nat} {cStr : Nat → Int32} {cOp : Nat → Int32} {cA : Nat → Int32} {cB : Nat → Int32} {OK : Nat → Nat} {oKin : Nat → Int32} {oOpen : Nat → Int32} {pVal : Nat → Int64} {aOut : Nat → Int32} {aVar : Nat → Int64} {FC : Nat → Nat} {FA : Nat → Nat} {FP : Nat → Nat} {FH : Nat → Nat} {FT : Nat → Nat} {fSelf : Nat → Int64} {stk : Nat → Int64} {TA : Nat → Nat} {TH : Nat → Nat} {xFc : Nat → Int32} {xFs : Nat → Int32} {xPc : Nat → Int32} {xKo : Nat → Int32} {xPk : Nat → Int32} {tw : Nat → Bool} {te : Nat → Bool} {tc : Nat → Bool} {xSet : Nat → Int64} {S : Nat → Nat} {XH : Nat → Nat} {xHeld : Nat → Int64} {xArg : Nat → Int64} {yCo : Nat → Int32} {yAr : Nat → Int32} {M : Nat → Nat} {yPair : Nat → Int32} {ySeen : Nat → Int32} {ySet : Nat → Int64} {yStay : Nat → Int32} {yArg : Nat → Int64} {yHan : Nat → Int32} {yKept : Nat → Int64} {yGiven : Int32}
variable {e k o c l kd B w : Nat} {a bb pr : Int32}
theorem ob_elems {z : Int64} (ho : o < n) (hn : n ≤ 32) (hc : c ≤ 4) (harg : ∀ k, k < c → yArg k = xArg k ∧ ob_V n (xArg k)) : ∀ t k (m' : Nat) (M' : Nat → Nat) (xPc' : Nat → Int32) (xKo' : Nat → Int32) (pVal' : Nat → Int64) (xPk' : Nat → Int32) (tw' : Nat → Bool) (te' : Nat → Bool) (tc' : Nat → Bool) (xSet' : Nat → Int64) (yPair' : Nat → Int32), t + k = c → m' + t < 2 ^ 31 →
    ob_gP n m' M' pVal' xPk' tw' xSet' yPair' ySet → ob_gL n M' xPc' xKo' → (∀ j, k ≤ j → j < 16 → M' (32 * o + j) = 0) →
    ∃ (m2 : Nat) (M2 : Nat → Nat) (xPc2 xKo2 : Nat → Int32) (pVal2 : Nat → Int64) (xPk2 : Nat → Int32) (tw2 te2 tc2 : Nat → Bool) (xSet2 : Nat → Int64) (yPair2 : Nat → Int32),
      ob_gP n m2 M2 pVal2 xPk2 tw2 xSet2 yPair2 ySet ∧ ob_gL n M2 xPc2 xKo2 ∧ m2 = m' + t ∧ (∀ j, (j < 32 * o ∨ 32 * o + 16 ≤ j) → M2 j = M' j ∧ pVal2 j = pVal' j ∧ yPair2 j = yPair' j ∧ tc2 j = tc' j) ∧ (∀ j, c ≤ j → j < 16 → M2 (32 * o + j) = 0) ∧
      (∀ post : SX → Prop, wX_makeArray_45 post (nI o) (nI n) (nI d) (nI b) deep res thr thn (fun zz => nI (CL zz)) cStr cOp cA cB (fun zz => nI (OK zz)) oKin oOpen xFc xFs xPc2 xKo2 xPk2 (fun zz => ob_xa (tw2 zz) (te2 zz) (tc2 zz)) pVal2 xSet2 (fun zz => nI (S zz)) aOut aVar (fun zz => nI (FC zz)) (fun zz => nI (FP zz)) (fun zz => nI (FA zz)) (fun zz => nI (FH zz)) (fun zz => nI (XH zz)) (fun zz => nI (FT zz)) fSelf xHeld stk (fun zz => nI (TA zz)) (fun zz => nI (TH zz)) xArg → wX_makeArray_17 post (nI c) (nI o) (t + 1) (nI k) (nI n) (nI d) (nI b) deep res thr thn (fun zz => nI (CL zz)) cStr cOp cA cB (fun zz => nI (OK zz)) oKin oOpen xFc xFs xPc' xKo' xPk' (fun zz => ob_xa (tw' zz) (te' zz) (tc' zz)) pVal' xSet' (fun zz => nI (S zz)) aOut aVar (fun zz => nI (FC zz)) (fun zz => nI (FP zz)) (fun zz => nI (FA zz)) (fun zz => nI (FH zz)) (fun zz => nI (XH zz)) (fun zz => nI (FT zz)) fSelf xHeld stk (fun zz => nI (TA zz)) (fun zz => nI (TH zz)) xArg) ∧
      (∀ (post : SY → Prop) (x1 x2 : Int32), wY_build_90 post x1 x2 (nI c) (nI o) 1 (nI c) (nI n) (nI m2) yGiven (nI d) deep (nI b) thr thn res cStr (fun zz => nI (CL zz)) cOp cA cB (fun zz => nI (OK zz)) oKin yCo yAr oOpen (fun zz => nI (M2 zz)) (fun zz => ob_yf (tw2 zz) (te2 zz) (tc2 zz)) yPair2 ySeen (vp_updL pVal2 (32 * o + 16) z) ySet (fun zz => ob_th (S zz)) yStay aOut aVar yArg (fun zz => nI (FC zz)) (fun zz => nI (FA zz)) (fun zz => nI (FP zz)) (fun zz => nI (FH zz)) yHan (fun zz => nI (FT zz)) (fun zz => nI (TA zz)) (fun zz => nI (TH zz)) fSelf yKept stk → wY_build_90 post x1 x2 (nI c) (nI o) (t + 1) (nI k) (nI n) (nI m') yGiven (nI d) deep (nI b) thr thn res cStr (fun zz => nI (CL zz)) cOp cA cB (fun zz => nI (OK zz)) oKin yCo yAr oOpen (fun zz => nI (M' zz)) (fun zz => ob_yf (tw' zz) (te' zz) (tc' zz)) yPair' ySeen (vp_updL pVal' (32 * o + 16) z) ySet (fun zz => ob_th (S zz)) yStay aOut aVar yArg (fun zz => nI (FC zz)) (fun zz => nI (FA zz)) (fun zz => nI (FP zz)) (fun zz => nI (FH zz)) yHan (fun zz => nI (FT zz)) (fun zz => nI (TA zz)) (fun zz => nI (TH zz)) fSelf yKept stk) := by
  intro t
  induction t with
  | zero =>
    intro k m' M' xPc' xKo' pVal' xPk' tw' te' tc' xSet' yPair' e hm hP hL hz
    have e' : k = c := by omega
    subst e'
    refine ⟨m', M', xPc', xKo', pVal', xPk', tw', te', tc', xSet', yPair', hP, hL, rfl, fun _ _ => ⟨rfl, rfl, rfl, rfl⟩, hz, fun post hp => ?_, fun post x1 x2 hp => hp⟩
    unfold wX_makeArray_17
    exact br_t (Int32.le_refl _) hp
  | succ t ih =>
    intro k m' M' xPc' xKo' pVal' xPk' tw' te' tc' xSet' yPair' e hm hP hL hz
    have hk : k < c := by omega
    obtain ⟨hxy, hV⟩ := harg k hk
    have hMz := hz k (Nat.le_refl _) (by omega)
    have hpk := (ob_sl_0 (hP.2.2 (32 * o + k) (by omega))).mpr hMz
    obtain ⟨cc, hcc, hpc, hL1⟩ := ob_gL_add (o := o) (k := k) hL hP.1 ho (by omega) hMz
    have hP1 : ob_gP n (m' + 1) (ob_um M' (32 * o + k) (m' + 1)) (vp_updL pVal' (32 * o + k) (xArg k)) (upd xPk' (32 * o + k) 1) (ob_ub tw' (32 * o + k) true) (vp_updL xSet' (32 * o + k) 8589934592) (upd yPair' (32 * o + k) 0) ySet := by
      refine ob_gP_c (i := 32 * o + k) hP (fun j => ?_) (fun j hj => ?_) (fun j hj hne => ?_) (fun _ => ?_)
      · unfold ob_um
        have := hP.1 j
        split <;> omega
      · rw [ob_um_n _ _ (by omega)]
        exact hP.2.1 j hj
      · exact ⟨ob_um_n _ _ hne, pk_uLn hne, pk_un hne, ob_ub_n _ _ hne, pk_uLn hne, pk_un hne, rfl⟩
      · rw [ob_um_s, pk_uLs, pk_us, pk_us]
        exact Or.inr ⟨by omega, hV, Or.inl ⟨rfl, rfl⟩⟩
    obtain ⟨m2, M2, xPc2, xKo2, pVal2, xPk2, tw2, te2, tc2, xSet2, yPair2, g1, g2, g3, g4, g5, g6, g7⟩ := ih (k + 1) (m' + 1) (ob_um M' (32 * o + k) (m' + 1)) (upd xPc' o (nI (cc + 1))) (upd xKo' (32 * o + cc) (nI k)) (vp_updL pVal' (32 * o + k) (xArg k)) (upd xPk' (32 * o + k) 1) (ob_ub tw' (32 * o + k) true) (ob_ub te' (32 * o + k) true) (ob_ub tc' (32 * o + k) true) (vp_updL xSet' (32 * o + k) 8589934592) (upd yPair' (32 * o + k) 0) (by omega) (by omega) hP1 hL1 (fun j hj hj2 => by rw [ob_um_n _ _ (by omega)]; exact hz j (by omega) hj2)
    refine ⟨m2, M2, xPc2, xKo2, pVal2, xPk2, tw2, te2, tc2, xSet2, yPair2, g1, g2, by omega, fun j hj => ?_, g5, fun post hp => ?_, fun post x1 x2 hp => ?_⟩
    · obtain ⟨q1, q2, q3, q4⟩ := g4 j hj
      rw [q1, q2, q3, q4]
      exact ⟨ob_um_n _ _ (by omega), pk_uLn (by omega), pk_un (by omega), ob_ub_n _ _ (by omega)⟩
    · have hin : vp_in (nI k) 4 := vp_in_nI (by omega) (by decide)
      have hcl : (nI k).toNatClampNeg = k := ob_cl (by omega)
      unfold wX_makeArray_17
      refine br_f (nI_ge (by omega) (by omega)) ⟨hin, ?_⟩
      rw [hcl]
      refine ob_stXn (c := cc) (sV := true) (sG := false) (sS := false) (sW := true) (sE := true) (sC := true) (oW := true) (oE := true) (oC := true) (by omega) (by omega) hpk hcc hpc _ ?_
      rw [nI_1]
      exact nm_e (g6 post hp)
    · have hin : vp_in (nI k) 4 := vp_in_nI (by omega) (by decide)
      have hcl : (nI k).toNatClampNeg = k := ob_cl (by omega)
      have hcm := ob_ucL (f := pVal') (i := 32 * o + k) (j := 32 * o + 16) (x := xArg k) (y := z) (by omega)
      have hg7 := g7 post x1 x2 hp
      unfold wY_build_90
      refine br_f (nI_ge (by omega) (by omega)) ⟨hin, ?_⟩
      rw [hcl, hxy]
      unfold wpY_appear
      simp (disch := first | omega | decide) only [ob_nar0, ob_uF50, hcm, forall_eq, not_true, not_false_iff, false_implies, true_implies, true_and, and_true, ob_sub1, Nat.add_sub_cancel, nI_1, ob_ix, ob_iy, ob_ix24, ob_iy24, ob_ix10, ob_iy10, ob_ix4, ob_iy4, ob_ix3, ob_iy3, ob_s1, ob_s2, ob_s3, ob_s4, ob_ltl, ob_lel, ob_eql, ob_ltr, ob_ler, ob_uN, Nat.add_one_ne_zero, ob_xs3, ob_lnn, ob_ltn, ob_eqn, Nat.not_lt_zero, Nat.zero_le, Nat.reduceEqDiff, Nat.reduceLeDiff, Nat.reduceLT, ob_eqll, Int32.reduceLT, Int32.reduceLE, eq_self_iff_true]
      exact hg7
theorem ob_op15 (R : ob_R n (e+1) b m res thr thn CL cOp cA cB OK oKin pVal aOut aVar FC FA FP FH FT fSelf stk TA TH xFc xFs xPc xKo xPk tw tc xSet S XH xHeld yCo yAr M yPair ySet yStay yHan yKept) (hm : m + 5 ≤ B) (hB : B < 2 ^ 31) (hw : 4 * (e + 1) + ob_hs XH (e + 1) ≤ w) (hc : c ≤ 4) :
    ∃ u' v', ob_S b B (w + 4) u' v' ∧ (∀ post : SX → Prop, post u' → wpX_makeOp post (nI n, nI (e+1), nI b, deep, res, thr, thn, (fun zz => nI (CL zz)), cStr, cOp, cA, cB, (fun zz => nI (OK zz)), oKin, oOpen, xFc, xFs, xPc, xKo, xPk, (fun zz => ob_xa (tw zz) (te zz) (tc zz)), pVal, xSet, (fun zz => nI (S zz)), aOut, aVar, (fun zz => nI (FC zz)), (fun zz => nI (FP zz)), (fun zz => nI (FA zz)), (fun zz => nI (FH zz)), (fun zz => nI (XH zz)), (fun zz => nI (FT zz)), fSelf, xHeld, stk, (fun zz => nI (TA zz)), (fun zz => nI (TH zz)), xArg) 15 (nI c)) ∧ (∀ post : SY → Prop, post v' → wpY_build post (nI n, nI m, yGiven, nI (e+1), deep, nI b, thr, thn, res, cStr, (fun zz => nI (CL zz)), cOp, cA, cB, (fun zz => nI (OK zz)), oKin, yCo, yAr, oOpen, (fun zz => nI (M zz)), (fun zz => ob_yf (tw zz) (te zz) (tc zz)), yPair, ySeen, pVal, ySet, (fun zz => ob_th (S zz)), yStay, aOut, aVar, yArg, (fun zz => nI (FC zz)), (fun zz => nI (FA zz)), (fun zz => nI (FP zz)), (fun zz => nI (FH zz)), yHan, (fun zz => nI (FT zz)), (fun zz => nI (TA zz)), (fun zz => nI (TH zz)), fSelf, yKept, stk) 15 (nI c)) := by
  have hn := R.2.1.1.2
  have h3 := R.2.1.1.1
  obtain ⟨FH2, xA, yA, R1, harg, hX1, hY1, _⟩ := ob_pops (n := n) (b := b) (m := m) (deep := deep) (res := res) (thr := thr) (thn := thn) (CL := CL) (cStr := cStr) (cOp := cOp) (cA := cA) (cB := cB) (OK := OK) (oKin := oKin) (oOpen := oOpen) (pVal := pVal) (aOut := aOut) (aVar := aVar) (FC := FC) (FA := FA) (FP := FP) (FT := FT) (fSelf := fSelf) (stk := stk) (TA := TA) (TH := TH) (xFc := xFc) (xFs := xFs) (xPc := xPc) (xKo := xKo) (xPk := xPk) (tw := tw) (te := te) (tc := tc) (xSet := xSet) (S := S) (XH := XH) (xHeld := xHeld) (yCo := yCo) (yAr := yAr) (M := M) (yPair := yPair) (ySeen := ySeen) (ySet := ySet) (yStay := yStay) (yHan := yHan) (yKept := yKept) (yGiven := yGiven) (e := e) c hc c FH xArg yArg (Nat.le_refl _) R (fun k hk hk2 => absurd hk2 (by omega))
  have hX0 : ∀ post : SX → Prop, wpX_newArray (fun r_40 u => match u with | (pf_objectCount, pf_frames, pf_begun, pf_deepest, pf_latest, pf_throwing, pf_thrown, pa_codeLength, pa_codeStrict, pa_codeOp, pa_codeA, pa_codeB, pa_objectKind, pa_prototype, pa_extensible, pa_functionCode, pa_functionScope, pa_propertyCount, pa_keyOrder, pa_propertyKind, pa_attributes, pa_valueOrGetter, pa_setterOf, pa_activationState, pa_activationAround, pa_variables, pa_frameCode, pa_frameNext, pa_frameActivation, pa_frameHeight, pa_frameHandlers, pa_frameEnding, pa_frameThis, pa_frameHeld, pa_stack, pa_handlerAt, pa_handlerHeight, pa_arguments) => (((r_40 < 0 → (wX_makeArray_45 post r_40 pf_objectCount pf_frames pf_begun pf_deepest pf_latest pf_throwing pf_thrown pa_codeLength pa_codeStrict pa_codeOp pa_codeA pa_codeB pa_objectKind pa_prototype pa_extensible pa_functionCode pa_functionScope pa_propertyCount pa_keyOrder pa_propertyKind pa_attributes pa_valueOrGetter pa_setterOf pa_activationState pa_activationAround pa_variables pa_frameCode pa_frameNext pa_frameActivation pa_frameHeight pa_frameHandlers pa_frameEnding pa_frameThis pa_frameHeld pa_stack pa_handlerAt pa_handlerHeight pa_arguments)) ∧ (¬ r_40 < 0 → (∃ n17 : Nat, wX_makeArray_17 post (nI c) r_40 n17 0 pf_objectCount pf_frames pf_begun pf_deepest pf_latest pf_throwing pf_thrown pa_codeLength pa_codeStrict pa_codeOp pa_codeA pa_codeB pa_objectKind pa_prototype pa_extensible pa_functionCode pa_functionScope pa_propertyCount pa_keyOrder pa_propertyKind pa_attributes pa_valueOrGetter pa_setterOf pa_activationState pa_activationAround pa_variables pa_frameCode pa_frameNext pa_frameActivation pa_frameHeight pa_frameHandlers pa_frameEnding pa_frameThis pa_frameHeld pa_stack pa_handlerAt pa_handlerHeight pa_arguments))))) (nI n, nI (e+1), nI b, deep, res, thr, thn, (fun zz => nI (CL zz)), cStr, cOp, cA, cB, (fun zz => nI (OK zz)), oKin, oOpen, xFc, xFs, xPc, xKo, xPk, (fun zz => ob_xa (tw zz) (te zz) (tc zz)), pVal, xSet, (fun zz => nI (S zz)), aOut, aVar, (fun zz => nI (FC zz)), (fun zz => nI (FP zz)), (fun zz => nI (FA zz)), (fun zz => nI (FH2 zz)), (fun zz => nI (XH zz)), (fun zz => nI (FT zz)), fSelf, xHeld, stk, (fun zz => nI (TA zz)), (fun zz => nI (TH zz)), xA) (nI c) → wpX_makeOp post (nI n, nI (e+1), nI b, deep, res, thr, thn, (fun zz => nI (CL zz)), cStr, cOp, cA, cB, (fun zz => nI (OK zz)), oKin, oOpen, xFc, xFs, xPc, xKo, xPk, (fun zz => ob_xa (tw zz) (te zz) (tc zz)), pVal, xSet, (fun zz => nI (S zz)), aOut, aVar, (fun zz => nI (FC zz)), (fun zz => nI (FP zz)), (fun zz => nI (FA zz)), (fun zz => nI (FH zz)), (fun zz => nI (XH zz)), (fun zz => nI (FT zz)), fSelf, xHeld, stk, (fun zz => nI (TA zz)), (fun zz => nI (TH zz)), xArg) 15 (nI c) := by
    intro post h
    unfold wpX_makeOp
    refine br_f (by decide) (br_f (by decide) (br_f (by decide) (br_t rfl ?_)))
    unfold wpX_makeArray wpX_popArguments
    refine nm_r (Int32.sub_eq_add_neg _ _) ⟨c + 1, hX1 _ h⟩
  have hY0 : ∀ post : SY → Prop, wY_build_17 post 15 (nI c) (nI c) 1 (nI 0 + (-1)) (nI n) (nI m) yGiven (nI (e+1)) deep (nI b) thr thn res cStr (fun zz => nI (CL zz)) cOp cA cB (fun zz => nI (OK zz)) oKin yCo yAr oOpen (fun zz => nI (M zz)) (fun zz => ob_yf (tw zz) (te zz) (tc zz)) yPair ySeen pVal ySet (fun zz => ob_th (S zz)) yStay aOut aVar yA (fun zz => nI (FC zz)) (fun zz => nI (FA zz)) (fun zz => nI (FP zz)) (fun zz => nI (FH2 zz)) yHan (fun zz => nI (FT zz)) (fun zz => nI (TA zz)) (fun zz => nI (TH zz)) fSelf yKept stk → wpY_build post (nI n, nI m, yGiven, nI (e+1), deep, nI b, thr, thn, res, cStr, (fun zz => nI (CL zz)), cOp, cA, cB, (fun zz => nI (OK zz)), oKin, yCo, yAr, oOpen, (fun zz => nI (M zz)), (fun zz => ob_yf (tw zz) (te zz) (tc zz)), yPair, ySeen, pVal, ySet, (fun zz => ob_th (S zz)), yStay, aOut, aVar, yArg, (fun zz => nI (FC zz)), (fun zz => nI (FA zz)), (fun zz => nI (FP zz)), (fun zz => nI (FH zz)), yHan, (fun zz => nI (FT zz)), (fun zz => nI (TA zz)), (fun zz => nI (TH zz)), fSelf, yKept, stk) 15 (nI c) := by
    intro post h
    unfold wpY_build
    refine br_t rfl (nm_r (Int32.sub_eq_add_neg _ _) ⟨c + 1, hY1 _ _ _ _ h⟩)
  by_cases h32 : n = 32
  · refine ⟨_, _, ob_S_mk (deep := deep) (cStr := cStr) (oOpen := oOpen) (te := te) (xArg := xA) (ySeen := ySeen) (yArg := yA) (yGiven := yGiven) (ob_raise R1 (ob_V_Ra n)) (by omega : m ≤ B) (by omega), fun post hp => hX0 post ?_, fun post hp => hY0 post ?_⟩
    · refine ob_arrXf h32 _ (br_t (by decide) ?_)
      unfold wX_makeArray_45 wpX_pushNew
      exact br_f (by decide) hp
    · unfold wY_build_17
      exact br_t (by decide) (br_t (by rw [h32]; rfl) hp)
  · have R2 := ob_arrR (l := c) (yCo' := upd yCo n (nI c)) R1 (by omega) (by omega) (fun q hq => pk_un (by omega))
    obtain ⟨hC, hO, hP, hL, hY, hA, hF, hT⟩ := R2
    obtain ⟨a1, a2, a3, l2, a4, a5, a6⟩ := hY n (by omega) (ob_um_s _ _ _)
    obtain ⟨m2, M2, xPc2, xKo2, pVal2, xPk2, tw2, te2, tc2, xSet2, yPair2, g1, g2, g3, g4, g5, g6, g7⟩ := ob_elems (b := b) (deep := deep) (res := res) (thr := thr) (thn := thn) (CL := CL) (cStr := cStr) (cOp := cOp) (cA := cA) (cB := cB) (aOut := aOut) (aVar := aVar) (FC := FC) (FA := FA) (FP := FP) (FT := FT) (fSelf := fSelf) (stk := stk) (TA := TA) (TH := TH) (xFc := xFc) (xFs := xFs) (S := S) (XH := XH) (xHeld := xHeld) (yCo := yCo) (ySeen := ySeen) (ySet := ySet) (yStay := yStay) (yHan := yHan) (yKept := yKept) (yGiven := yGiven) (n := n + 1) (d := e + 1) (FH := FH2) (OK := ob_um OK n 1) (oKin := upd oKin n 2) (oOpen := upd oOpen n 1) (yAr := upd yAr n (-1)) (xArg := xA) (yArg := yA) (o := n) (c := c) (z := 0) (by omega) (by omega) hc (fun k hk => ⟨(harg k hk).1, ob_V_up (by omega) (harg k hk).2⟩) c 0 (m + 1) _ _ _ _ _ _ (ob_ub te (32 * n + 16) false) _ _ _ (by omega) (by omega) hP hL (fun j hj hj2 => by
      have hz := R1.2.2.1.2.1 (32 * n + j) (by omega)
      rw [ob_um_n _ _ (by omega)]
      exact hz)
    obtain ⟨q1, q2, q3, q4⟩ := g4 (32 * n + 16) (by omega)
    have R3 : ob_R (n+1) (e+1) b m2 res thr thn CL cOp cA cB (ob_um OK n 1) (upd oKin n 2) pVal2 aOut aVar FC FA FP FH2 FT fSelf stk TA TH xFc xFs xPc2 xKo2 xPk2 tw2 tc2 xSet2 S XH xHeld (upd yCo n (nI c)) (upd yAr n (-1)) M2 yPair2 ySet yStay yHan yKept := by
      refine ⟨hC, hO, g1, g2, fun q hq h1 => ?_, hA, hF, hT⟩
      obtain ⟨b1, b2, b3, l3, b4, b5, b6⟩ := hY q hq h1
      obtain ⟨p1, p2, p3, p4⟩ := g4 (32 * q + 16) (by omega)
      refine ⟨by rw [p1]; exact b1, by rw [p3]; exact b2, by rw [p4]; exact b3, l3, b4, by rw [p2]; exact b5, fun j hj hj2 => ?_⟩
      by_cases z : q = n
      · subst z
        have e3 : l3 = c := (pk_lEQ (by omega) (by omega)).mp (b5.symm.trans pk_uLs)
        exact g5 j (by omega) hj2
      · rw [(g4 (32 * q + j) (by omega)).1]
        exact b6 j hj hj2
    obtain ⟨res', thr', thn', FH', stk', R4, hXp, hYp⟩ := ob_push (deep := deep) (cStr := cStr) (oOpen := (upd oOpen n 1)) (te := te2) (xArg := xA) (ySeen := ySeen) (yArg := yA) (yGiven := yGiven) R3 (ob_V_o (o := n) (by omega))
    refine ⟨_, _, ob_S_mk (deep := deep) (cStr := cStr) (oOpen := (upd oOpen n 1)) (te := te2) (xArg := xA) (ySeen := ySeen) (yArg := yA) (yGiven := yGiven) R4 (by omega : m2 ≤ B) (by omega), fun post hp => hX0 post ?_, fun post hp => hY0 post ?_⟩
    · refine ob_arrX (by omega) (by omega) _ (br_f (nI_pos (by omega)) ⟨c + 1, g6 post ?_⟩)
      unfold wX_makeArray_45 wpX_pushNew
      refine br_t (nI_pos' (by omega)) ?_
      rw [ob_obj_toI n (by omega)]
      exact hXp _ hp
    · unfold wY_build_17
      refine br_t (by decide) (br_f (fun z => h32 ((nI_eq (b := 32) (by omega) (by decide)).mp z)) (br_f (by decide) (br_t rfl ?_)))
      unfold wY_build_82
      refine ob_newYa (by omega) _ ⟨c + 1, ?_⟩
      rw [ob_uuL] at g7
      have hg7 := g7 post 15 (nI c) ?_
      · exact hg7
      · have e16 : 32 * nI n + 16 = nI (32 * n + 16) := ob_iy n 16
        have hpv : vp_updL (vp_updL pVal2 (32 * n + 16) 0) (32 * n + 16) (lN c) = pVal2 := by
          rw [ob_uuL]
          exact ob_uiL (q2.trans pk_uLs)
        unfold wY_build_90
        refine br_t (Int32.le_refl _) (br_t rfl ?_)
        rw [e16]
        simp (disch := first | omega | decide) only [nI_l, hpv, forall_eq, not_true, not_false_iff, false_implies, true_implies, true_and, and_true, ob_sub1, Nat.add_sub_cancel, nI_1, ob_ix, ob_iy, ob_ix24, ob_iy24, ob_ix10, ob_iy10, ob_ix4, ob_iy4, ob_ix3, ob_iy3, ob_s1, ob_s2, ob_s3, ob_s4, ob_ltl, ob_lel, ob_eql, ob_ltr, ob_ler, ob_uN, Nat.add_one_ne_zero, ob_xs3, ob_lnn, ob_ltn, ob_eqn, Nat.not_lt_zero, Nat.zero_le, Nat.reduceEqDiff, Nat.reduceLeDiff, Nat.reduceLT, ob_eqll, Int32.reduceLT, Int32.reduceLE, eq_self_iff_true]
        unfold wY_build_144 wY_build_176 wY_build_195
        simp (disch := first | omega | decide) only [ob_obj_toI, forall_eq, not_true, not_false_iff, false_implies, true_implies, true_and, and_true, ob_sub1, Nat.add_sub_cancel, nI_1, ob_ix, ob_iy, ob_ix24, ob_iy24, ob_ix10, ob_iy10, ob_ix4, ob_iy4, ob_ix3, ob_iy3, ob_s1, ob_s2, ob_s3, ob_s4, ob_ltl, ob_lel, ob_eql, ob_ltr, ob_ler, ob_uN, Nat.add_one_ne_zero, ob_xs3, ob_lnn, ob_ltn, ob_eqn, Nat.not_lt_zero, Nat.zero_le, Nat.reduceEqDiff, Nat.reduceLeDiff, Nat.reduceLT, ob_eqll, Int32.reduceLT, Int32.reduceLE, eq_self_iff_true]
        exact hYp _ hp
end
