/-! ===== call, put, code ===== -/
theorem i_vc_put {k : Nat} {u : SX} {v : SY} (I : i_Rel k u v) (hk : k + 6 ≤ 3072) (v1 : Int32) (v2 : Int32) (a2 : Int64) (v5 : Int32) : wpX_put (fun r u' => wpY_put (fun r' v' => r' = r ∧ i_Rel (k + 6) u' v') v v1 v2 a2 (lw_bz v5)) u v1 v2 a2 (lw_bz v5) := by
  have J := i_up I
  obtain ⟨n, b, m, deep, res, thr, thn, CL, cStr, cOp, cA, cB, OK, oKin, oOpen, pVal, aOut, aVar, FC, FA, FP, FH, FT, fSelf, stk, TA, TH, xFc, xFs, xPc, xKo, xPk, tw, te, tc, xSet, S, XH, xHeld, xArg, yCo, yAr, M, yPair, ySeen, ySet, yStay, yArg, yHan, yKept, yGiven, rfl, rfl, R, hm⟩ := I
  have h3 := R.2.1.1
  unfold wpX_put wpY_put
  rcases ob_isP (n := n) (d := 0) (b := b) (m := m) (deep := deep) (res := res) (thr := thr) (thn := thn) (CL := CL) (cStr := cStr) (cOp := cOp) (cA := cA) (cB := cB) (OK := OK) (oKin := oKin) (oOpen := oOpen) (pVal := pVal) (aOut := aOut) (aVar := aVar) (FC := FC) (FA := FA) (FP := FP) (FH := FH) (FT := FT) (fSelf := fSelf) (stk := stk) (TA := TA) (TH := TH) (xFc := xFc) (xFs := xFs) (xPc := xPc) (xKo := xKo) (xPk := xPk) (tw := tw) (te := te) (tc := tc) (xSet := xSet) (S := S) (XH := XH) (xHeld := xHeld) (xArg := xArg) (yCo := yCo) (yAr := yAr) (M := M) (yPair := yPair) (ySeen := ySeen) (ySet := ySet) (yStay := yStay) (yArg := yArg) (yHan := yHan) (yKept := yKept) (yGiven := yGiven) R.2.1 v1 v2 with ⟨o, j, ho, hj, rfl, rfl, hX, hY⟩ | ⟨hX, hY⟩
  · rcases ob_isV (n := n) (d := 0) (b := b) (m := m) (deep := deep) (res := res) (thr := thr) (thn := thn) (CL := CL) (cStr := cStr) (cOp := cOp) (cA := cA) (cB := cB) (OK := OK) (oKin := oKin) (oOpen := oOpen) (pVal := pVal) (aOut := aOut) (aVar := aVar) (FC := FC) (FA := FA) (FP := FP) (FH := FH) (FT := FT) (fSelf := fSelf) (stk := stk) (TA := TA) (TH := TH) (xFc := xFc) (xFs := xFs) (xPc := xPc) (xKo := xKo) (xPk := xPk) (tw := tw) (te := te) (tc := tc) (xSet := xSet) (S := S) (XH := XH) (xHeld := xHeld) (xArg := xArg) (yCo := yCo) (yAr := yAr) (M := M) (yPair := yPair) (ySeen := ySeen) (ySet := ySet) (yStay := yStay) (yArg := yArg) (yHan := yHan) (yKept := yKept) (yGiven := yGiven) R.2.1 a2 with ⟨hv, hXv, hYv⟩ | ⟨_, hXv, hYv⟩
    · obtain ⟨u1, v1', hS, hX2, hY2⟩ := ob_putv (deep := 0) (cStr := cStr) (oOpen := oOpen) (te := te) (xArg := xArg) (ySeen := ySeen) (yArg := yArg) (yGiven := yGiven) (strict := lw_bz v5) (B := m + 1) (w := 0) (ob_startR R) rfl (ob_V_o ho) hv hj (Nat.le_refl _) (by omega) (by show 4 * 0 + 0 ≤ 0; omega)
      obtain ⟨r, u2, v2', hE, hX3, hY3⟩ := ob_runs (by omega) (by omega) hS
      have K : i_Rel (k + 6) u2 v2' := by
        obtain ⟨n, b, m, deep, res, thr, thn, CL, cStr, cOp, cA, cB, OK, oKin, oOpen, pVal, aOut, aVar, FC, FA, FP, FH, FT, fSelf, stk, TA, TH, xFc, xFs, xPc, xKo, xPk, tw, te, tc, xSet, S, XH, xHeld, xArg, yCo, yAr, M, yPair, ySeen, ySet, yStay, yArg, yHan, yKept, yGiven, h1, h2, h3, h4⟩ := hE
        exact ⟨n, b, m, deep, res, thr, thn, CL, cStr, cOp, cA, cB, OK, oKin, oOpen, pVal, aOut, aVar, FC, FA, FP, FH, FT, fSelf, stk, TA, TH, xFc, xFs, xPc, xKo, xPk, tw, te, tc, xSet, S, XH, xHeld, xArg, yCo, yAr, M, yPair, ySeen, ySet, yStay, yArg, yHan, yKept, yGiven, h1, h2, h3, by omega⟩
      refine hX _ (br_f (by decide) (hXv _ (br_f (by decide) ?_)))
      unfold wpX_startRun
      dsimp only
      rw [ob_obj_toI o (by omega)]
      refine hX2 _ (hX3 _ ?_)
      refine hY _ (br_f (by decide) (hYv _ (br_f (by decide) ?_)))
      unfold wpY_begin
      dsimp only
      exact hY2 _ (hY3 _ ⟨rfl, K⟩)
    · exact hX _ (br_f (by decide) (hXv _ (br_t rfl (hY _ (br_f (by decide) (hYv _ (br_t rfl ⟨rfl, J⟩)))))))
  · exact hX _ (br_t rfl (hY _ (br_t rfl ⟨rfl, J⟩)))
theorem i_vc_call {k : Nat} {u : SX} {v : SY} (I : i_Rel k u v) (hk : k + 6 ≤ 3072) (v1 : Int32) (a1 : Int64) (a2 : Int64) : wpX_call (fun r u' => wpY_call (fun r' v' => r' = r ∧ i_Rel (k + 6) u' v') v v1 a1 a2) u v1 a1 a2 := by
  have J := i_up I
  obtain ⟨n, b, m, deep, res, thr, thn, CL, cStr, cOp, cA, cB, OK, oKin, oOpen, pVal, aOut, aVar, FC, FA, FP, FH, FT, fSelf, stk, TA, TH, xFc, xFs, xPc, xKo, xPk, tw, te, tc, xSet, S, XH, xHeld, xArg, yCo, yAr, M, yPair, ySeen, ySet, yStay, yArg, yHan, yKept, yGiven, rfl, rfl, R, hm⟩ := I
  have h3 := R.2.1.1
  unfold wpX_call
  rcases ob_isO R.2.1 v1 with ⟨o, ho, rfl⟩ | h
  · have hYin : ∀ P : Int32 → Prop, P 1 → wpY_in P (nI o) 0 (nI n - 1) := by
      intro P hP
      rw [ob_sub1 (a := n) (by omega)]
      exact ob_inT (b := 0) (by omega) (by omega) (by omega) _ hP
    refine br_f (nI_pos (by omega)) (br_f (nI_ge ho (by omega)) ?_)
    rcases ob_isV (n := n) (d := 0) (b := b) (m := m) (deep := deep) (res := res) (thr := thr) (thn := thn) (CL := CL) (cStr := cStr) (cOp := cOp) (cA := cA) (cB := cB) (OK := OK) (oKin := oKin) (oOpen := oOpen) (pVal := pVal) (aOut := aOut) (aVar := aVar) (FC := FC) (FA := FA) (FP := FP) (FH := FH) (FT := FT) (fSelf := fSelf) (stk := stk) (TA := TA) (TH := TH) (xFc := xFc) (xFs := xFs) (xPc := xPc) (xKo := xKo) (xPk := xPk) (tw := tw) (te := te) (tc := tc) (xSet := xSet) (S := S) (XH := XH) (xHeld := xHeld) (xArg := xArg) (yCo := yCo) (yAr := yAr) (M := M) (yPair := yPair) (ySeen := ySeen) (ySet := ySet) (yStay := yStay) (yArg := yArg) (yHan := yHan) (yKept := yKept) (yGiven := yGiven) R.2.1 a1 with ⟨hv1, hXv1, hYv1⟩ | ⟨_, hXv1, hYv1⟩
    · rcases ob_isV (n := n) (d := 0) (b := b) (m := m) (deep := deep) (res := res) (thr := thr) (thn := thn) (CL := CL) (cStr := cStr) (cOp := cOp) (cA := cA) (cB := cB) (OK := OK) (oKin := oKin) (oOpen := oOpen) (pVal := pVal) (aOut := aOut) (aVar := aVar) (FC := FC) (FA := FA) (FP := FP) (FH := FH) (FT := FT) (fSelf := fSelf) (stk := stk) (TA := TA) (TH := TH) (xFc := xFc) (xFs := xFs) (xPc := xPc) (xKo := xKo) (xPk := xPk) (tw := tw) (te := te) (tc := tc) (xSet := xSet) (S := S) (XH := XH) (xHeld := xHeld) (xArg := xArg) (yCo := yCo) (yAr := yAr) (M := M) (yPair := yPair) (ySeen := ySeen) (ySet := ySet) (yStay := yStay) (yArg := yArg) (yHan := yHan) (yKept := yKept) (yGiven := yGiven) R.2.1 a2 with ⟨hv2, hXv2, hYv2⟩ | ⟨_, hXv2, hYv2⟩
      · obtain ⟨d', deep', thr', thn', S', aOut', aVar', FC', FA', FP', FH', FT', fSelf', XH', yHan', xHeld', yKept', yStay', R2, hw2, hXe, hYe⟩ := ob_enter (fn := lN (17179869184 + o)) (self := a1) (held := 8589934592) (kept := 0) (c := 1) (t := 0) (deep := 0) (cStr := cStr) (oOpen := oOpen) (te := te) (xArg := (vp_updL xArg 0 a2)) (ySeen := ySeen) (yArg := (vp_updL yArg 0 a2)) (ob_startR R) rfl (ob_V_o ho) hv1 (by decide) (fun z => absurd rfl z) (by decide) (fun j hj => by
          have : j = 0 := by omega
          subst this
          exact ⟨rfl, hv2⟩)
        have hS := ob_S_mk (B := m) (w := 4) (deep := deep') (cStr := cStr) (oOpen := oOpen) (te := te) (xArg := (vp_updL xArg 0 a2)) (ySeen := ySeen) (yArg := (vp_updL yArg 0 a2)) (yGiven := (nI 1)) R2 (Nat.le_refl _) (by
          have : 4 * 0 + ob_hs XH 0 = 0 := rfl
          omega)
        obtain ⟨r, u2, v2', hE, hX3, hY3⟩ := ob_runs (by omega) (by omega) hS
        have K : i_Rel (k + 6) u2 v2' := by
          obtain ⟨n, b, m, deep, res, thr, thn, CL, cStr, cOp, cA, cB, OK, oKin, oOpen, pVal, aOut, aVar, FC, FA, FP, FH, FT, fSelf, stk, TA, TH, xFc, xFs, xPc, xKo, xPk, tw, te, tc, xSet, S, XH, xHeld, xArg, yCo, yAr, M, yPair, ySeen, ySet, yStay, yArg, yHan, yKept, yGiven, h1, h2, h3, h4⟩ := hE
          exact ⟨n, b, m, deep, res, thr, thn, CL, cStr, cOp, cA, cB, OK, oKin, oOpen, pVal, aOut, aVar, FC, FA, FP, FH, FT, fSelf, stk, TA, TH, xFc, xFs, xPc, xKo, xPk, tw, te, tc, xSet, S, XH, xHeld, xArg, yCo, yAr, M, yPair, ySeen, ySet, yStay, yArg, yHan, yKept, yGiven, h1, h2, h3, by omega⟩
        refine hXv1 _ (br_f (by decide) (hXv2 _ (br_f (by decide) ?_)))
        unfold wpX_startRun
        dsimp only
        rw [ob_obj_toI o (by omega)]
        refine nm_e (hXe _ (hX3 _ ?_))
        unfold wpY_call
        refine hYin _ (br_f (by decide) (hYv1 _ (br_f (by decide) (hYv2 _ (br_f (by decide) ?_)))))
        unfold wpY_begin
        dsimp only
        rw [ob_obj_toI o (by omega)]
        exact nm_e (hYe _ (hY3 _ ⟨rfl, K⟩))
      · refine hXv1 _ (br_f (by decide) (hXv2 _ (br_t rfl ?_)))
        unfold wpY_call
        exact hYin _ (br_f (by decide) (hYv1 _ (br_f (by decide) (hYv2 _ (br_t rfl ⟨rfl, J⟩)))))
    · refine hXv1 _ (br_t rfl ?_)
      unfold wpY_call
      exact hYin _ (br_f (by decide) (hYv1 _ (br_t rfl ⟨rfl, J⟩)))
  · have hY : ∀ post : Int32 → SY → Prop, post (-1) (nI n, nI m, yGiven, nI 0, deep, nI b, thr, thn, res, cStr, (fun zz => nI (CL zz)), cOp, cA, cB, (fun zz => nI (OK zz)), oKin, yCo, yAr, oOpen, (fun zz => nI (M zz)), (fun zz => ob_yf (tw zz) (te zz) (tc zz)), yPair, ySeen, pVal, ySet, (fun zz => ob_th (S zz)), yStay, aOut, aVar, yArg, (fun zz => nI (FC zz)), (fun zz => nI (FA zz)), (fun zz => nI (FP zz)), (fun zz => nI (FH zz)), yHan, (fun zz => nI (FT zz)), (fun zz => nI (TA zz)), (fun zz => nI (TH zz)), fSelf, yKept, stk) → wpY_call post (nI n, nI m, yGiven, nI 0, deep, nI b, thr, thn, res, cStr, (fun zz => nI (CL zz)), cOp, cA, cB, (fun zz => nI (OK zz)), oKin, yCo, yAr, oOpen, (fun zz => nI (M zz)), (fun zz => ob_yf (tw zz) (te zz) (tc zz)), yPair, ySeen, pVal, ySet, (fun zz => ob_th (S zz)), yStay, aOut, aVar, yArg, (fun zz => nI (FC zz)), (fun zz => nI (FA zz)), (fun zz => nI (FP zz)), (fun zz => nI (FH zz)), yHan, (fun zz => nI (FT zz)), (fun zz => nI (TA zz)), (fun zz => nI (TH zz)), fSelf, yKept, stk) v1 a1 a2 := by
      intro post hp
      unfold wpY_call
      exact ob_inF (h.imp id (ob_nle1 (by omega) (by omega))) _ (br_t rfl hp)
    by_cases h0 : v1 < 0
    · exact br_t h0 (hY _ ⟨rfl, J⟩)
    · exact br_f h0 (br_t (h.resolve_left h0) (hY _ ⟨rfl, J⟩))
theorem i_vc_code {k : Nat} {u : SX} {v : SY} (I : i_Rel k u v) (hk : k + 6 ≤ 3072) (v1 : Int32) (v2 : Int32) : wpX_code (fun r u' => wpY_code (fun r' v' => r' = r ∧ i_Rel (k + 6) u' v') v v1 (lw_bz v2)) u v1 (lw_bz v2) := by
  have J := i_up I
  obtain ⟨n, b, m, deep, res, thr, thn, CL, cStr, cOp, cA, cB, OK, oKin, oOpen, pVal, aOut, aVar, FC, FA, FP, FH, FT, fSelf, stk, TA, TH, xFc, xFs, xPc, xKo, xPk, tw, te, tc, xSet, S, XH, xHeld, xArg, yCo, yAr, M, yPair, ySeen, ySet, yStay, yArg, yHan, yKept, yGiven, rfl, rfl, R, hm⟩ := I
  unfold wpX_code
  rcases pk_ix v1 (n := 8) (by decide) with h | h | ⟨c, hc, rfl⟩
  · refine br_t h ?_
    unfold wpY_code
    exact ob_inF (Or.inl h) _ (br_t rfl ⟨rfl, J⟩)
  · have h0 : ¬ v1 < 0 := fun z => absurd (Int32.lt_of_le_of_lt h z) (by decide)
    have h7 : 7 < v1 := Int32.lt_of_lt_of_le (by decide) h
    refine br_f h0 (br_f (Int32.not_lt.mpr h) ?_)
    unfold wpY_code
    exact ob_inF (Or.inr h7) _ (br_t rfl ⟨rfl, J⟩)
  · have hin : vp_in (nI c) 8 := vp_in_nI hc (by decide)
    have R2 : ob_R n 0 b m res thr thn (ob_um CL c 0) cOp cA cB OK oKin pVal aOut aVar FC FA FP FH FT fSelf stk TA TH xFc xFs xPc xKo xPk tw tc xSet S XH xHeld yCo yAr M yPair ySet yStay yHan yKept := by
      obtain ⟨hC, hO, hP, hL, hY, hA, hF, hT⟩ := R
      refine ⟨fun q hq => ?_, hO, hP, hL, hY, hA, hF, hT⟩
      by_cases z : q = c
      · subst z
        rw [ob_um_s]
        exact ⟨by omega, fun j hj => absurd hj (by omega)⟩
      · rw [ob_um_n _ _ z]
        exact hC q hq
    have K : i_Rel (k + 6) _ _ := ob_E_mk (deep := deep) (cStr := (upd cStr c (vp_nar .boolean (lw_bz v2)))) (oOpen := oOpen) (te := te) (xArg := xArg) (ySeen := ySeen) (yArg := yArg) (yGiven := yGiven) R2 (by omega : m ≤ 300 * (k + 6))
    refine br_f (nI_pos (by omega)) (br_t (nI_lt (b := 8) hc (by decide)) ⟨hin, ?_⟩)
    rw [ob_cl (by omega)]
    refine nm_e ⟨hin, nm_r (ob_uN0 _ _) ⟨hin, nm_e ?_⟩⟩
    unfold wpY_code
    refine ob_inT (b := 0) (c := 7) (by omega) (by omega) (by decide) _ (br_f (by decide) ⟨hin, ?_⟩)
    rw [ob_cl (by omega)]
    exact nm_e ⟨hin, nm_r (ob_uN0 _ _) ⟨hin, nm_e ⟨rfl, K⟩⟩⟩
