/-! ===== define, accessor ===== -/
theorem ob_dS : ∀ a : Fin 128, (((((nI a.val >>> ((6 : Int32) &&& 31)) * 1) ||| (((nI a.val >>> ((3 : Int32) &&& 31)) &&& 1) * 2)) ||| (((nI a.val >>> ((4 : Int32) &&& 31)) &&& 1) * 16)) ||| (((nI a.val >>> ((5 : Int32) &&& 31)) &&& 1) * 32)) = ob_ys (a.val.testBit 6) false false (a.val.testBit 3) (a.val.testBit 4) (a.val.testBit 5) := by decide +kernel
theorem ob_dO : ∀ a : Fin 128, ((((nI a.val &&& 1) * 2) ||| (((nI a.val >>> ((1 : Int32) &&& 31)) &&& 1) * 16)) ||| (((nI a.val >>> ((2 : Int32) &&& 31)) &&& 1) * 32)) = ob_yf (a.val.testBit 0) (a.val.testBit 1) (a.val.testBit 2) := by decide +kernel
theorem ob_d64 : ∀ a : Fin 128, ((nI a.val &&& 64) = 0 ↔ a.val.testBit 6 = false) ∧ (nI a.val ≤ 63 ↔ a.val.testBit 6 = false) := by decide +kernel
theorem ob_aX : ∀ a : Fin 64, ∀ g s : Bool, (((nI a.val &&& 54) ||| (if g then 128 else 0)) ||| (if s then 256 else 0)) = ob_xs false g s false (a.val.testBit 4) (a.val.testBit 5) false (a.val.testBit 1) (a.val.testBit 2) := by decide +kernel
theorem ob_a1 : ∀ a : Fin 64, ((nI a.val &&& 1) = 0 ↔ a.val.testBit 0 = false) ∧ ((nI a.val &&& 8) = 0 ↔ a.val.testBit 3 = false) := by decide +kernel
theorem ob_aS : ∀ a : Fin 64, (((((nI a.val &&& 1) * 4) ||| (((nI a.val >>> ((3 : Int32) &&& 31)) &&& 1) * 8)) ||| (((nI a.val >>> ((4 : Int32) &&& 31)) &&& 1) * 16)) ||| (((nI a.val >>> ((5 : Int32) &&& 31)) &&& 1) * 32)) = ob_ys false (a.val.testBit 0) (a.val.testBit 3) false (a.val.testBit 4) (a.val.testBit 5) := by decide +kernel
theorem ob_aO : ∀ a : Fin 64, ((((nI a.val >>> ((1 : Int32) &&& 31)) &&& 1) * 16) ||| (((nI a.val >>> ((2 : Int32) &&& 31)) &&& 1) * 32)) = ob_yf false (a.val.testBit 1) (a.val.testBit 2) := by decide +kernel
theorem i_vc_define {k : Nat} {u : SX} {v : SY} (I : i_Rel k u v) (hk : k + 6 ≤ 3072) (v1 : Int32) (v2 : Int32) (a2 : Int64) (v5 : Int32) : wpX_define (fun r u' => wpY_define (fun r' v' => r' = r ∧ i_Rel (k + 6) u' v') v v1 v2 a2 v5) u v1 v2 a2 v5 := by
  have J := i_up I
  obtain ⟨n, b, m, deep, res, thr, thn, CL, cStr, cOp, cA, cB, OK, oKin, oOpen, pVal, aOut, aVar, FC, FA, FP, FH, FT, fSelf, stk, TA, TH, xFc, xFs, xPc, xKo, xPk, tw, te, tc, xSet, S, XH, xHeld, xArg, yCo, yAr, M, yPair, ySeen, ySet, yStay, yArg, yHan, yKept, yGiven, rfl, rfl, R, hm⟩ := I
  unfold wpX_define wpY_define
  rcases ob_isP (n := n) (d := 0) (b := b) (m := m) (deep := deep) (res := res) (thr := thr) (thn := thn) (CL := CL) (cStr := cStr) (cOp := cOp) (cA := cA) (cB := cB) (OK := OK) (oKin := oKin) (oOpen := oOpen) (pVal := pVal) (aOut := aOut) (aVar := aVar) (FC := FC) (FA := FA) (FP := FP) (FH := FH) (FT := FT) (fSelf := fSelf) (stk := stk) (TA := TA) (TH := TH) (xFc := xFc) (xFs := xFs) (xPc := xPc) (xKo := xKo) (xPk := xPk) (tw := tw) (te := te) (tc := tc) (xSet := xSet) (S := S) (XH := XH) (xHeld := xHeld) (xArg := xArg) (yCo := yCo) (yAr := yAr) (M := M) (yPair := yPair) (ySeen := ySeen) (ySet := ySet) (yStay := yStay) (yArg := yArg) (yHan := yHan) (yKept := yKept) (yGiven := yGiven) R.2.1 v1 v2 with ⟨o, j, ho, hj, rfl, rfl, hX, hY⟩ | ⟨hX, hY⟩
  · rcases ob_rgA (a := v5) (g := 127) (by decide) with ⟨f, hf, rfl⟩ | ⟨h, _⟩
    · obtain ⟨a, rfl⟩ : ∃ a : Fin 128, f = a.val := ⟨⟨f, by omega⟩, rfl⟩
      refine hX _ (br_f (by decide) (br_f (nI_pos (by omega)) (br_t (nI_le (b := 127) hf (by decide)) ?_)))
      have hYin : ∀ P : Int32 → Prop, P 1 → wpY_in P (nI a.val) 0 127 := fun P hP => ob_inT (b := 0) (c := 127) (by omega) hf (by decide) _ hP
      have hmain : (a.val.testBit 6 = true → ob_V n a2) → wX_define_41 (fun r u' => wpY_define (fun r' v' => r' = r ∧ i_Rel (k + 6) u' v') (nI n, nI m, yGiven, nI 0, deep, nI b, thr, thn, res, cStr, (fun zz => nI (CL zz)), cOp, cA, cB, (fun zz => nI (OK zz)), oKin, yCo, yAr, oOpen, (fun zz => nI (M zz)), (fun zz => ob_yf (tw zz) (te zz) (tc zz)), yPair, ySeen, pVal, ySet, (fun zz => ob_th (S zz)), yStay, aOut, aVar, yArg, (fun zz => nI (FC zz)), (fun zz => nI (FA zz)), (fun zz => nI (FP zz)), (fun zz => nI (FH zz)), yHan, (fun zz => nI (FT zz)), (fun zz => nI (TA zz)), (fun zz => nI (TH zz)), fSelf, yKept, stk) (nI o) (nI j) a2 (nI a.val)) (nI o) (nI j) a2 (nI a.val) (nI n) (nI 0) (nI b) deep res thr thn (fun zz => nI (CL zz)) cStr cOp cA cB (fun zz => nI (OK zz)) oKin oOpen xFc xFs xPc xKo xPk (fun zz => ob_xa (tw zz) (te zz) (tc zz)) pVal xSet (fun zz => nI (S zz)) aOut aVar (fun zz => nI (FC zz)) (fun zz => nI (FP zz)) (fun zz => nI (FA zz)) (fun zz => nI (FH zz)) (fun zz => nI (XH zz)) (fun zz => nI (FT zz)) fSelf xHeld stk (fun zz => nI (TA zz)) (fun zz => nI (TH zz)) xArg := by
        intro hv
        obtain ⟨r, m', M', xPc', xKo', pVal', xPk', tw', te', tc', xSet', yPair', ySet', R2, hm2, hr, hX2, hY2⟩ := ob_settle (deep := deep) (cStr := cStr) (oOpen := oOpen) (te := te) (xArg := xArg) (ySeen := ySeen) (yArg := yArg) (yGiven := yGiven) (o := o) (k := j) (sV := a.val.testBit 6) (sG := false) (sS := false) (sW := a.val.testBit 3) (sE := a.val.testBit 4) (sC := a.val.testBit 5) (oW := a.val.testBit 0) (oE := a.val.testBit 1) (oC := a.val.testBit 2) (pW := a.val.testBit 0) (pE := a.val.testBit 1) (pC := a.val.testBit 2) (v := a2) (w := 8589934592) (wy := 0) ⟨fun _ => rfl, fun _ => rfl, fun _ => rfl⟩ R ho hj (by omega) (by simp) (fun h => hv (by simpa using h)) (fun h => absurd h (by decide))
        have K : i_Rel (k + 6) _ _ := ob_E_mk (deep := deep) (cStr := cStr) (oOpen := oOpen) (te := te') (xArg := xArg) (ySeen := ySeen) (yArg := yArg) (yGiven := yGiven) R2 (by omega : m' ≤ 300 * (k + 6))
        rw [ob_sDef a] at hX2
        have hYd : wpY_define (fun r' v' => r' = r ∧ i_Rel (k + 6) (nI n, nI 0, nI b, deep, res, thr, thn, (fun zz => nI (CL zz)), cStr, cOp, cA, cB, (fun zz => nI (OK zz)), oKin, oOpen, xFc, xFs, xPc', xKo', xPk', (fun zz => ob_xa (tw' zz) (te' zz) (tc' zz)), pVal', xSet', (fun zz => nI (S zz)), aOut, aVar, (fun zz => nI (FC zz)), (fun zz => nI (FP zz)), (fun zz => nI (FA zz)), (fun zz => nI (FH zz)), (fun zz => nI (XH zz)), (fun zz => nI (FT zz)), fSelf, xHeld, stk, (fun zz => nI (TA zz)), (fun zz => nI (TH zz)), xArg) v') (nI n, nI m, yGiven, nI 0, deep, nI b, thr, thn, res, cStr, (fun zz => nI (CL zz)), cOp, cA, cB, (fun zz => nI (OK zz)), oKin, yCo, yAr, oOpen, (fun zz => nI (M zz)), (fun zz => ob_yf (tw zz) (te zz) (tc zz)), yPair, ySeen, pVal, ySet, (fun zz => ob_th (S zz)), yStay, aOut, aVar, yArg, (fun zz => nI (FC zz)), (fun zz => nI (FA zz)), (fun zz => nI (FP zz)), (fun zz => nI (FH zz)), yHan, (fun zz => nI (FT zz)), (fun zz => nI (TA zz)), (fun zz => nI (TH zz)), fSelf, yKept, stk) (nI o) (nI j) a2 (nI a.val) := by
          have h37 : wY_define_37 (fun r' v' => r' = r ∧ i_Rel (k + 6) (nI n, nI 0, nI b, deep, res, thr, thn, (fun zz => nI (CL zz)), cStr, cOp, cA, cB, (fun zz => nI (OK zz)), oKin, oOpen, xFc, xFs, xPc', xKo', xPk', (fun zz => ob_xa (tw' zz) (te' zz) (tc' zz)), pVal', xSet', (fun zz => nI (S zz)), aOut, aVar, (fun zz => nI (FC zz)), (fun zz => nI (FP zz)), (fun zz => nI (FA zz)), (fun zz => nI (FH zz)), (fun zz => nI (XH zz)), (fun zz => nI (FT zz)), fSelf, xHeld, stk, (fun zz => nI (TA zz)), (fun zz => nI (TH zz)), xArg) v') (nI o) (nI j) a2 (nI a.val) (nI n) (nI m) yGiven (nI 0) deep (nI b) thr thn res cStr (fun zz => nI (CL zz)) cOp cA cB (fun zz => nI (OK zz)) oKin yCo yAr oOpen (fun zz => nI (M zz)) (fun zz => ob_yf (tw zz) (te zz) (tc zz)) yPair ySeen pVal ySet (fun zz => ob_th (S zz)) yStay aOut aVar yArg (fun zz => nI (FC zz)) (fun zz => nI (FA zz)) (fun zz => nI (FP zz)) (fun zz => nI (FH zz)) yHan (fun zz => nI (FT zz)) (fun zz => nI (TA zz)) (fun zz => nI (TH zz)) fSelf yKept stk := by
            unfold wY_define_37
            rw [ob_dS a, ob_dO a]
            exact nm_e (hY2 _ ⟨rfl, K⟩)
          unfold wpY_define
          refine hY _ (br_f (by decide) (hYin _ (br_f (by decide) ?_)))
          cases hb : a.val.testBit 6
          · exact br_t ((ob_d64 a).2.mpr hb) h37
          · refine br_f (fun z => absurd (hb.symm.trans ((ob_d64 a).2.mp z)) (by decide)) ?_
            rcases ob_isV (n := n) (d := 0) (b := b) (m := m) (deep := deep) (res := res) (thr := thr) (thn := thn) (CL := CL) (cStr := cStr) (cOp := cOp) (cA := cA) (cB := cB) (OK := OK) (oKin := oKin) (oOpen := oOpen) (pVal := pVal) (aOut := aOut) (aVar := aVar) (FC := FC) (FA := FA) (FP := FP) (FH := FH) (FT := FT) (fSelf := fSelf) (stk := stk) (TA := TA) (TH := TH) (xFc := xFc) (xFs := xFs) (xPc := xPc) (xKo := xKo) (xPk := xPk) (tw := tw) (te := te) (tc := tc) (xSet := xSet) (S := S) (XH := XH) (xHeld := xHeld) (xArg := xArg) (yCo := yCo) (yAr := yAr) (M := M) (yPair := yPair) (ySeen := ySeen) (ySet := ySet) (yStay := yStay) (yArg := yArg) (yHan := yHan) (yKept := yKept) (yGiven := yGiven) R.2.1 a2 with ⟨_, _, hYv⟩ | ⟨hnv, _, _⟩
            · exact hYv _ (br_f (by decide) h37)
            · exact absurd (hv hb) hnv
        unfold wX_define_41
        refine hX2 _ ?_
        by_cases hr2 : r = -2
        · subst hr2
          exact br_t rfl hYd
        · exact br_f hr2 hYd
      cases hb : a.val.testBit 6
      · exact br_t ((ob_d64 a).1.mpr hb) (hmain (fun z => absurd (hb.symm.trans z) (by decide)))
      · refine br_f (fun z => absurd (hb.symm.trans ((ob_d64 a).1.mp z)) (by decide)) ?_
        rcases ob_isV (n := n) (d := 0) (b := b) (m := m) (deep := deep) (res := res) (thr := thr) (thn := thn) (CL := CL) (cStr := cStr) (cOp := cOp) (cA := cA) (cB := cB) (OK := OK) (oKin := oKin) (oOpen := oOpen) (pVal := pVal) (aOut := aOut) (aVar := aVar) (FC := FC) (FA := FA) (FP := FP) (FH := FH) (FT := FT) (fSelf := fSelf) (stk := stk) (TA := TA) (TH := TH) (xFc := xFc) (xFs := xFs) (xPc := xPc) (xKo := xKo) (xPk := xPk) (tw := tw) (te := te) (tc := tc) (xSet := xSet) (S := S) (XH := XH) (xHeld := xHeld) (xArg := xArg) (yCo := yCo) (yAr := yAr) (M := M) (yPair := yPair) (ySeen := ySeen) (ySet := ySet) (yStay := yStay) (yArg := yArg) (yHan := yHan) (yKept := yKept) (yGiven := yGiven) R.2.1 a2 with ⟨hv, hXv, _⟩ | ⟨_, hXv, hYv⟩
        · exact hXv _ (br_f (by decide) (hmain (fun _ => hv)))
        · refine hXv _ (br_t rfl (hY _ (br_f (by decide) (hYin _ (br_f (by decide) ?_)))))
          exact br_f (fun z => absurd (hb.symm.trans ((ob_d64 a).2.mp z)) (by decide)) (hYv _ (br_t rfl ⟨rfl, J⟩))
    · refine hX _ (br_f (by decide) ?_)
      by_cases h0 : v5 < 0
      · exact br_t h0 (hY _ (br_f (by decide) (ob_inF h _ (br_t rfl ⟨rfl, J⟩))))
      · refine br_f h0 (br_f (Int32.not_le.mpr (h.resolve_left h0)) (hY _ (br_f (by decide) (ob_inF h _ (br_t rfl ⟨rfl, J⟩)))))
  · exact hX _ (br_t rfl (hY _ (br_t rfl ⟨rfl, J⟩)))
