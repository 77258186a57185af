/-! ===== accessor ===== -/
def ob_gv (x : Int32) : Int64 := if 0 ≤ x then 17179869184 + x.toInt64 else 8589934592
section
variable {n : Nat} {d : Nat} {b : Nat} {m : Nat} {deep : Int32} {res : Int64} {thr : Int32} {thn : Int64} {CL : Nat → Nat} {cStr : Nat → Int32} {cOp : Nat → Int32} {cA : Nat → Int32} {cB : Nat → Int32} {OK : Nat → Nat} {oKin : Nat → Int32} {oOpen : Nat → Int32} {pVal : Nat → Int64} {aOut : Nat → Int32} {aVar : Nat → Int64} {FC : Nat → Nat} {FA : Nat → Nat} {FP : Nat → Nat} {FH : Nat → Nat} {FT : Nat → Nat} {fSelf : Nat → Int64} {stk : Nat → Int64} {TA : Nat → Nat} {TH : Nat → Nat} {xFc : Nat → Int32} {xFs : Nat → Int32} {xPc : Nat → Int32} {xKo : Nat → Int32} {xPk : Nat → Int32} {tw : Nat → Bool} {te : Nat → Bool} {tc : Nat → Bool} {xSet : Nat → Int64} {S : Nat → Nat} {XH : Nat → Nat} {xHeld : Nat → Int64} {xArg : Nat → Int64} {yCo : Nat → Int32} {yAr : Nat → Int32} {M : Nat → Nat} {yPair : Nat → Int32} {ySeen : Nat → Int32} {ySet : Nat → Int64} {yStay : Nat → Int32} {yArg : Nat → Int64} {yHan : Nat → Int32} {yKept : Nat → Int64} {yGiven : Int32}
theorem ob_half (hO : ob_gO n OK oKin) (x : Int32) : (ob_V n (ob_gv x) ∧ (∀ post : Int32 → Prop, post 1 → wpX_mayAccess post (nI n, nI d, nI b, deep, res, thr, thn, (fun zz => nI (CL zz)), cStr, cOp, cA, cB, (fun zz => nI (OK zz)), oKin, oOpen, xFc, xFs, xPc, xKo, xPk, (fun zz => ob_xa (tw zz) (te zz) (tc zz)), pVal, xSet, (fun zz => nI (S zz)), aOut, aVar, (fun zz => nI (FC zz)), (fun zz => nI (FP zz)), (fun zz => nI (FA zz)), (fun zz => nI (FH zz)), (fun zz => nI (XH zz)), (fun zz => nI (FT zz)), fSelf, xHeld, stk, (fun zz => nI (TA zz)), (fun zz => nI (TH zz)), xArg) x) ∧ (∀ post : Int32 → Prop, post 1 → wpY_isHalf post (nI n, nI m, yGiven, nI d, deep, nI b, thr, thn, res, cStr, (fun zz => nI (CL zz)), cOp, cA, cB, (fun zz => nI (OK zz)), oKin, yCo, yAr, oOpen, (fun zz => nI (M zz)), (fun zz => ob_yf (tw zz) (te zz) (tc zz)), yPair, ySeen, pVal, ySet, (fun zz => ob_th (S zz)), yStay, aOut, aVar, yArg, (fun zz => nI (FC zz)), (fun zz => nI (FA zz)), (fun zz => nI (FP zz)), (fun zz => nI (FH zz)), yHan, (fun zz => nI (FT zz)), (fun zz => nI (TA zz)), (fun zz => nI (TH zz)), fSelf, yKept, stk) x)) ∨ ((∀ post : Int32 → Prop, post 0 → wpX_mayAccess post (nI n, nI d, nI b, deep, res, thr, thn, (fun zz => nI (CL zz)), cStr, cOp, cA, cB, (fun zz => nI (OK zz)), oKin, oOpen, xFc, xFs, xPc, xKo, xPk, (fun zz => ob_xa (tw zz) (te zz) (tc zz)), pVal, xSet, (fun zz => nI (S zz)), aOut, aVar, (fun zz => nI (FC zz)), (fun zz => nI (FP zz)), (fun zz => nI (FA zz)), (fun zz => nI (FH zz)), (fun zz => nI (XH zz)), (fun zz => nI (FT zz)), fSelf, xHeld, stk, (fun zz => nI (TA zz)), (fun zz => nI (TH zz)), xArg) x) ∧ (∀ post : Int32 → Prop, post 0 → wpY_isHalf post (nI n, nI m, yGiven, nI d, deep, nI b, thr, thn, res, cStr, (fun zz => nI (CL zz)), cOp, cA, cB, (fun zz => nI (OK zz)), oKin, yCo, yAr, oOpen, (fun zz => nI (M zz)), (fun zz => ob_yf (tw zz) (te zz) (tc zz)), yPair, ySeen, pVal, ySet, (fun zz => ob_th (S zz)), yStay, aOut, aVar, yArg, (fun zz => nI (FC zz)), (fun zz => nI (FA zz)), (fun zz => nI (FP zz)), (fun zz => nI (FH zz)), yHan, (fun zz => nI (FT zz)), (fun zz => nI (TA zz)), (fun zz => nI (TH zz)), fSelf, yKept, stk) x)) := by
  have h3 := hO.1
  rcases ob_isO hO x with ⟨o, ho, rfl⟩ | h
  · have hin : vp_in (nI o) 32 := vp_in_nI (by omega) (by decide)
    have hcl : (nI o).toNatClampNeg = o := ob_cl (by omega)
    have hOK := (hO.2 o ho).1
    have hX : ∀ post : Int32 → Prop, ((nI (OK o) = 2 → post 1) ∧ (¬ nI (OK o) = 2 → post 0)) → wpX_mayAccess post (nI n, nI d, nI b, deep, res, thr, thn, (fun zz => nI (CL zz)), cStr, cOp, cA, cB, (fun zz => nI (OK zz)), oKin, oOpen, xFc, xFs, xPc, xKo, xPk, (fun zz => ob_xa (tw zz) (te zz) (tc zz)), pVal, xSet, (fun zz => nI (S zz)), aOut, aVar, (fun zz => nI (FC zz)), (fun zz => nI (FP zz)), (fun zz => nI (FA zz)), (fun zz => nI (FH zz)), (fun zz => nI (XH zz)), (fun zz => nI (FT zz)), fSelf, xHeld, stk, (fun zz => nI (TA zz)), (fun zz => nI (TH zz)), xArg) (nI o) := by
      intro post hp
      unfold wpX_mayAccess
      refine br_f (nI_pos (by omega)) (br_t (nI_lt ho (by omega)) ⟨hin, ?_⟩)
      rw [hcl]
      exact hp
    have hY : ∀ post : Int32 → Prop, ((nI (OK o) = 2 → post 1) ∧ (¬ nI (OK o) = 2 → post 0)) → wpY_isHalf post (nI n, nI m, yGiven, nI d, deep, nI b, thr, thn, res, cStr, (fun zz => nI (CL zz)), cOp, cA, cB, (fun zz => nI (OK zz)), oKin, yCo, yAr, oOpen, (fun zz => nI (M zz)), (fun zz => ob_yf (tw zz) (te zz) (tc zz)), yPair, ySeen, pVal, ySet, (fun zz => ob_th (S zz)), yStay, aOut, aVar, yArg, (fun zz => nI (FC zz)), (fun zz => nI (FA zz)), (fun zz => nI (FP zz)), (fun zz => nI (FH zz)), yHan, (fun zz => nI (FT zz)), (fun zz => nI (TA zz)), (fun zz => nI (TH zz)), fSelf, yKept, stk) (nI o) := by
      intro post hp
      unfold wpY_isHalf
      dsimp only
      rw [ob_sub1 (a := n) (by omega)]
      refine br_f (ob_m1n o (by omega)) (ob_inT (b := 0) (by omega) (by omega) (by omega) _ (br_f (by decide) ⟨hin, ?_⟩))
      rw [hcl]
      exact hp
    by_cases h2 : nI (OK o) = 2
    · refine Or.inl ⟨?_, fun post hp => hX post (br_t h2 hp), fun post hp => hY post (br_t h2 hp)⟩
      unfold ob_gv
      rw [if_pos (nI_pos' (by omega)), ob_obj_toI o (by omega)]
      exact ob_V_o ho
    · exact Or.inr ⟨fun post hp => hX post (br_f h2 hp), fun post hp => hY post (br_f h2 hp)⟩
  · have hX : ∀ post : Int32 → Prop, ((x = -1 → post 1) ∧ (¬ x = -1 → post 0)) → wpX_mayAccess post (nI n, nI d, nI b, deep, res, thr, thn, (fun zz => nI (CL zz)), cStr, cOp, cA, cB, (fun zz => nI (OK zz)), oKin, oOpen, xFc, xFs, xPc, xKo, xPk, (fun zz => ob_xa (tw zz) (te zz) (tc zz)), pVal, xSet, (fun zz => nI (S zz)), aOut, aVar, (fun zz => nI (FC zz)), (fun zz => nI (FP zz)), (fun zz => nI (FA zz)), (fun zz => nI (FH zz)), (fun zz => nI (XH zz)), (fun zz => nI (FT zz)), fSelf, xHeld, stk, (fun zz => nI (TA zz)), (fun zz => nI (TH zz)), xArg) x := by
      intro post hp
      unfold wpX_mayAccess wX_mayAccess_12
      by_cases h0 : x < 0
      · exact br_t h0 hp
      · exact br_f h0 (br_f (Int32.not_lt.mpr (h.resolve_left h0)) hp)
    by_cases hm1 : x = -1
    · refine Or.inl ⟨?_, fun post hp => hX post (br_t hm1 hp), fun post hp => ?_⟩
      · rw [hm1]
        exact ob_V_U n
      · unfold wpY_isHalf
        exact br_t hm1 hp
    · refine Or.inr ⟨fun post hp => hX post (br_f hm1 hp), fun post hp => ?_⟩
      unfold wpY_isHalf
      exact br_f hm1 (ob_inF (h.imp id (ob_nle1 (by omega) (by omega))) _ (br_t rfl hp))
end
theorem i_vc_accessor {k : Nat} {u : SX} {v : SY} (I : i_Rel k u v) (hk : k + 6 ≤ 3072) (v1 : Int32) (v2 : Int32) (v3 : Int32) (v4 : Int32) (v5 : Int32) : wpX_accessor (fun r u' => wpY_accessor (fun r' v' => r' = r ∧ i_Rel (k + 6) u' v') v v1 v2 v3 v4 v5) u v1 v2 v3 v4 v5 := by
  have J := i_up I
  obtain ⟨n, b, m, deep, res, thr, thn, CL, cStr, cOp, cA, cB, OK, oKin, oOpen, pVal, aOut, aVar, FC, FA, FP, FH, FT, fSelf, stk, TA, TH, xFc, xFs, xPc, xKo, xPk, tw, te, tc, xSet, S, XH, xHeld, xArg, yCo, yAr, M, yPair, ySeen, ySet, yStay, yArg, yHan, yKept, yGiven, rfl, rfl, R, hm⟩ := I
  unfold wpX_accessor
  rcases ob_isP (n := n) (d := 0) (b := b) (m := m) (deep := deep) (res := res) (thr := thr) (thn := thn) (CL := CL) (cStr := cStr) (cOp := cOp) (cA := cA) (cB := cB) (OK := OK) (oKin := oKin) (oOpen := oOpen) (pVal := pVal) (aOut := aOut) (aVar := aVar) (FC := FC) (FA := FA) (FP := FP) (FH := FH) (FT := FT) (fSelf := fSelf) (stk := stk) (TA := TA) (TH := TH) (xFc := xFc) (xFs := xFs) (xPc := xPc) (xKo := xKo) (xPk := xPk) (tw := tw) (te := te) (tc := tc) (xSet := xSet) (S := S) (XH := XH) (xHeld := xHeld) (xArg := xArg) (yCo := yCo) (yAr := yAr) (M := M) (yPair := yPair) (ySeen := ySeen) (ySet := ySet) (yStay := yStay) (yArg := yArg) (yHan := yHan) (yKept := yKept) (yGiven := yGiven) R.2.1 v1 v2 with ⟨o, j, ho, hj, rfl, rfl, hX, hY⟩ | ⟨hX, hY⟩
  · rcases ob_rgA (a := v5) (g := 63) (by decide) with ⟨f, hf, rfl⟩ | ⟨h, _⟩
    · obtain ⟨a, rfl⟩ : ∃ a : Fin 64, f = a.val := ⟨⟨f, by omega⟩, rfl⟩
      refine hX _ (br_f (by decide) (br_f (nI_pos (by omega)) (br_t (nI_le (b := 63) hf (by decide)) ?_)))
      have hY0 : ∀ post : Int32 → SY → Prop, ((((nI a.val &&& 1) = 0 → (wY_accessor_35 post (nI o) (nI j) v3 v4 (nI a.val) (nI n) (nI m) yGiven (nI 0) deep (nI b) thr thn res cStr (fun zz => nI (CL zz)) cOp cA cB (fun zz => nI (OK zz)) oKin yCo yAr oOpen (fun zz => nI (M zz)) (fun zz => ob_yf (tw zz) (te zz) (tc zz)) yPair ySeen pVal ySet (fun zz => ob_th (S zz)) yStay aOut aVar yArg (fun zz => nI (FC zz)) (fun zz => nI (FA zz)) (fun zz => nI (FP zz)) (fun zz => nI (FH zz)) yHan (fun zz => nI (FT zz)) (fun zz => nI (TA zz)) (fun zz => nI (TH zz)) fSelf yKept stk)) ∧ (¬ (nI a.val &&& 1) = 0 → (wpY_isHalf (fun r_136 => (((r_136 = 0 → (post (-1) (nI n, nI m, yGiven, nI 0, deep, nI b, thr, thn, res, cStr, (fun zz => nI (CL zz)), cOp, cA, cB, (fun zz => nI (OK zz)), oKin, yCo, yAr, oOpen, (fun zz => nI (M zz)), (fun zz => ob_yf (tw zz) (te zz) (tc zz)), yPair, ySeen, pVal, ySet, (fun zz => ob_th (S zz)), yStay, aOut, aVar, yArg, (fun zz => nI (FC zz)), (fun zz => nI (FA zz)), (fun zz => nI (FP zz)), (fun zz => nI (FH zz)), yHan, (fun zz => nI (FT zz)), (fun zz => nI (TA zz)), (fun zz => nI (TH zz)), fSelf, yKept, stk))) ∧ (¬ r_136 = 0 → (wY_accessor_35 post (nI o) (nI j) v3 v4 (nI a.val) (nI n) (nI m) yGiven (nI 0) deep (nI b) thr thn res cStr (fun zz => nI (CL zz)) cOp cA cB (fun zz => nI (OK zz)) oKin yCo yAr oOpen (fun zz => nI (M zz)) (fun zz => ob_yf (tw zz) (te zz) (tc zz)) yPair ySeen pVal ySet (fun zz => ob_th (S zz)) yStay aOut aVar yArg (fun zz => nI (FC zz)) (fun zz => nI (FA zz)) (fun zz => nI (FP zz)) (fun zz => nI (FH zz)) yHan (fun zz => nI (FT zz)) (fun zz => nI (TA zz)) (fun zz => nI (TH zz)) fSelf yKept stk))))) (nI n, nI m, yGiven, nI 0, deep, nI b, thr, thn, res, cStr, (fun zz => nI (CL zz)), cOp, cA, cB, (fun zz => nI (OK zz)), oKin, yCo, yAr, oOpen, (fun zz => nI (M zz)), (fun zz => ob_yf (tw zz) (te zz) (tc zz)), yPair, ySeen, pVal, ySet, (fun zz => ob_th (S zz)), yStay, aOut, aVar, yArg, (fun zz => nI (FC zz)), (fun zz => nI (FA zz)), (fun zz => nI (FP zz)), (fun zz => nI (FH zz)), yHan, (fun zz => nI (FT zz)), (fun zz => nI (TA zz)), (fun zz => nI (TH zz)), fSelf, yKept, stk) v3)))) → wpY_accessor post (nI n, nI m, yGiven, nI 0, deep, nI b, thr, thn, res, cStr, (fun zz => nI (CL zz)), cOp, cA, cB, (fun zz => nI (OK zz)), oKin, yCo, yAr, oOpen, (fun zz => nI (M zz)), (fun zz => ob_yf (tw zz) (te zz) (tc zz)), yPair, ySeen, pVal, ySet, (fun zz => ob_th (S zz)), yStay, aOut, aVar, yArg, (fun zz => nI (FC zz)), (fun zz => nI (FA zz)), (fun zz => nI (FP zz)), (fun zz => nI (FH zz)), yHan, (fun zz => nI (FT zz)), (fun zz => nI (TA zz)), (fun zz => nI (TH zz)), fSelf, yKept, stk) (nI o) (nI j) v3 v4 (nI a.val) := by
        intro post h
        unfold wpY_accessor
        exact hY _ (br_f (by decide) (ob_inT (b := 0) (c := 63) (by omega) hf (by decide) _ (br_f (by decide) h)))
      /- both halves are fit: DEFINE -/
      have hmain : (a.val.testBit 0 = true → ob_V n (ob_gv v3)) → (a.val.testBit 3 = true → ob_V n (ob_gv v4)) → ∃ u' r, (∀ post : Int32 → SX → Prop, post r u' → wX_accessor_81 post (nI o) (nI j) v3 v4 (nI a.val) (ob_01 (a.val.testBit 0)) (ob_01 (a.val.testBit 3)) (nI n) (nI 0) (nI b) deep res thr thn (fun zz => nI (CL zz)) cStr cOp cA cB (fun zz => nI (OK zz)) oKin oOpen xFc xFs xPc xKo xPk (fun zz => ob_xa (tw zz) (te zz) (tc zz)) pVal xSet (fun zz => nI (S zz)) aOut aVar (fun zz => nI (FC zz)) (fun zz => nI (FP zz)) (fun zz => nI (FA zz)) (fun zz => nI (FH zz)) (fun zz => nI (XH zz)) (fun zz => nI (FT zz)) fSelf xHeld stk (fun zz => nI (TA zz)) (fun zz => nI (TH zz)) xArg) ∧ wY_accessor_54 (fun r' v' => r' = r ∧ i_Rel (k + 6) u' v') (nI o) (nI j) v3 v4 (nI a.val) (nI n) (nI m) yGiven (nI 0) deep (nI b) thr thn res cStr (fun zz => nI (CL zz)) cOp cA cB (fun zz => nI (OK zz)) oKin yCo yAr oOpen (fun zz => nI (M zz)) (fun zz => ob_yf (tw zz) (te zz) (tc zz)) yPair ySeen pVal ySet (fun zz => ob_th (S zz)) yStay aOut aVar yArg (fun zz => nI (FC zz)) (fun zz => nI (FA zz)) (fun zz => nI (FP zz)) (fun zz => nI (FH zz)) yHan (fun zz => nI (FT zz)) (fun zz => nI (TA zz)) (fun zz => nI (TH zz)) fSelf yKept stk := by
        intro hv hw
        obtain ⟨r, m', M', xPc', xKo', pVal', xPk', tw', te', tc', xSet', yPair', ySet', R2, hm2, hr, hX2, hY2⟩ := ob_settle (deep := deep) (cStr := cStr) (oOpen := oOpen) (te := te) (xArg := xArg) (ySeen := ySeen) (yArg := yArg) (yGiven := yGiven) (o := o) (k := j) (sV := false) (sG := a.val.testBit 0) (sS := a.val.testBit 3) (sW := false) (sE := a.val.testBit 4) (sC := a.val.testBit 5) (oW := false) (oE := a.val.testBit 1) (oC := a.val.testBit 2) (pW := false) (pE := a.val.testBit 1) (pC := a.val.testBit 2) (v := ob_gv v3) (w := ob_gv v4) (wy := ob_gv v4) ⟨fun _ => rfl, fun _ => rfl, fun _ => rfl⟩ R ho hj (by omega) (by simp) (fun h => hv (by simpa using h)) (fun h => ⟨hw h, rfl⟩)
        have K : i_Rel (k + 6) _ _ := ob_E_mk (deep := deep) (cStr := cStr) (oOpen := oOpen) (te := te') (xArg := xArg) (ySeen := ySeen) (yArg := yArg) (yGiven := yGiven) R2 (by omega : m' ≤ 300 * (k + 6))
        refine ⟨(nI n, nI 0, nI b, deep, res, thr, thn, (fun zz => nI (CL zz)), cStr, cOp, cA, cB, (fun zz => nI (OK zz)), oKin, oOpen, xFc, xFs, xPc', xKo', xPk', (fun zz => ob_xa (tw' zz) (te' zz) (tc' zz)), pVal', xSet', (fun zz => nI (S zz)), aOut, aVar, (fun zz => nI (FC zz)), (fun zz => nI (FP zz)), (fun zz => nI (FA zz)), (fun zz => nI (FH zz)), (fun zz => nI (XH zz)), (fun zz => nI (FT zz)), fSelf, xHeld, stk, (fun zz => nI (TA zz)), (fun zz => nI (TH zz)), xArg), r, fun post hp => ?_, ?_⟩
        · rw [← ob_aX a] at hX2
          have h119 : ∀ z0 z1 : Int32, (z1 ||| z0) = (((nI a.val &&& 54) ||| (if a.val.testBit 0 then 128 else 0)) ||| (if a.val.testBit 3 then 256 else 0)) → wX_accessor_119 post (nI o) (nI j) v3 v4 z0 z1 (nI n) (nI 0) (nI b) deep res thr thn (fun zz => nI (CL zz)) cStr cOp cA cB (fun zz => nI (OK zz)) oKin oOpen xFc xFs xPc xKo xPk (fun zz => ob_xa (tw zz) (te zz) (tc zz)) pVal xSet (fun zz => nI (S zz)) aOut aVar (fun zz => nI (FC zz)) (fun zz => nI (FP zz)) (fun zz => nI (FA zz)) (fun zz => nI (FH zz)) (fun zz => nI (XH zz)) (fun zz => nI (FT zz)) fSelf xHeld stk (fun zz => nI (TA zz)) (fun zz => nI (TH zz)) xArg := by
            intro z0 z1 e
            unfold wX_accessor_119
            rw [e]
            have h138 : wX_accessor_138 post (nI o) (nI j) v4 (((nI a.val &&& 54) ||| (if a.val.testBit 0 then 128 else 0)) ||| (if a.val.testBit 3 then 256 else 0)) (ob_gv v3) (nI n) (nI 0) (nI b) deep res thr thn (fun zz => nI (CL zz)) cStr cOp cA cB (fun zz => nI (OK zz)) oKin oOpen xFc xFs xPc xKo xPk (fun zz => ob_xa (tw zz) (te zz) (tc zz)) pVal xSet (fun zz => nI (S zz)) aOut aVar (fun zz => nI (FC zz)) (fun zz => nI (FP zz)) (fun zz => nI (FA zz)) (fun zz => nI (FH zz)) (fun zz => nI (XH zz)) (fun zz => nI (FT zz)) fSelf xHeld stk (fun zz => nI (TA zz)) (fun zz => nI (TH zz)) xArg := by
              have h158 : wX_accessor_158 post (nI o) (nI j) (((nI a.val &&& 54) ||| (if a.val.testBit 0 then 128 else 0)) ||| (if a.val.testBit 3 then 256 else 0)) (ob_gv v3) (ob_gv v4) (nI n) (nI 0) (nI b) deep res thr thn (fun zz => nI (CL zz)) cStr cOp cA cB (fun zz => nI (OK zz)) oKin oOpen xFc xFs xPc xKo xPk (fun zz => ob_xa (tw zz) (te zz) (tc zz)) pVal xSet (fun zz => nI (S zz)) aOut aVar (fun zz => nI (FC zz)) (fun zz => nI (FP zz)) (fun zz => nI (FA zz)) (fun zz => nI (FH zz)) (fun zz => nI (XH zz)) (fun zz => nI (FT zz)) fSelf xHeld stk (fun zz => nI (TA zz)) (fun zz => nI (TH zz)) xArg := by
                unfold wX_accessor_158
                exact hX2 _ hp
              unfold wX_accessor_138
              unfold ob_gv at h158 ⊢
              by_cases h4 : 0 ≤ v4
              · rw [if_pos h4] at h158
                exact br_t h4 h158
              · rw [if_neg h4] at h158
                exact br_f h4 h158
            refine nm_e ?_
            unfold ob_gv at h138
            by_cases h3 : 0 ≤ v3
            · rw [if_pos h3] at h138
              exact br_t h3 h138
            · rw [if_neg h3] at h138
              exact br_f h3 h138
          have h102 : ∀ z0 : Int32, z0 = (if a.val.testBit 0 then 128 else 0) → wX_accessor_102 post (nI o) (nI j) v3 v4 (ob_01 (a.val.testBit 3)) z0 (nI a.val &&& 54) (nI n) (nI 0) (nI b) deep res thr thn (fun zz => nI (CL zz)) cStr cOp cA cB (fun zz => nI (OK zz)) oKin oOpen xFc xFs xPc xKo xPk (fun zz => ob_xa (tw zz) (te zz) (tc zz)) pVal xSet (fun zz => nI (S zz)) aOut aVar (fun zz => nI (FC zz)) (fun zz => nI (FP zz)) (fun zz => nI (FA zz)) (fun zz => nI (FH zz)) (fun zz => nI (XH zz)) (fun zz => nI (FT zz)) fSelf xHeld stk (fun zz => nI (TA zz)) (fun zz => nI (TH zz)) xArg := by
            intro z0 e
            unfold wX_accessor_102
            refine nm_e ?_
            rw [e]
            cases hb : a.val.testBit 3
            · exact br_t rfl (h119 _ _ (by rw [hb]; rfl))
            · exact br_f (by decide) (h119 _ _ (by rw [hb]; rfl))
          unfold wX_accessor_81
          refine nm_e ?_
          cases hb : a.val.testBit 0
          · exact br_t rfl (h102 0 (by rw [hb]; rfl))
          · exact br_f (by decide) (h102 128 (by rw [hb]; rfl))
        · have h150 : wY_accessor_150 (fun r' v' => r' = r ∧ i_Rel (k + 6) (nI n, nI 0, nI b, deep, res, thr, thn, (fun zz => nI (CL zz)), cStr, cOp, cA, cB, (fun zz => nI (OK zz)), oKin, oOpen, xFc, xFs, xPc', xKo', xPk', (fun zz => ob_xa (tw' zz) (te' zz) (tc' zz)), pVal', xSet', (fun zz => nI (S zz)), aOut, aVar, (fun zz => nI (FC zz)), (fun zz => nI (FP zz)), (fun zz => nI (FA zz)), (fun zz => nI (FH zz)), (fun zz => nI (XH zz)), (fun zz => nI (FT zz)), fSelf, xHeld, stk, (fun zz => nI (TA zz)), (fun zz => nI (TH zz)), xArg) v') (ob_gv v4) (ob_gv v3) (ob_yf false (a.val.testBit 1) (a.val.testBit 2)) (ob_ys false (a.val.testBit 0) (a.val.testBit 3) false (a.val.testBit 4) (a.val.testBit 5)) (nI j) (nI o) (nI n) (nI m) yGiven (nI 0) deep (nI b) thr thn res cStr (fun zz => nI (CL zz)) cOp cA cB (fun zz => nI (OK zz)) oKin yCo yAr oOpen (fun zz => nI (M zz)) (fun zz => ob_yf (tw zz) (te zz) (tc zz)) yPair ySeen pVal ySet (fun zz => ob_th (S zz)) yStay aOut aVar yArg (fun zz => nI (FC zz)) (fun zz => nI (FA zz)) (fun zz => nI (FP zz)) (fun zz => nI (FH zz)) yHan (fun zz => nI (FT zz)) (fun zz => nI (TA zz)) (fun zz => nI (TH zz)) fSelf yKept stk := by
            unfold wY_accessor_150
            exact hY2 _ ⟨rfl, K⟩
          have h132 : wY_accessor_132 (fun r' v' => r' = r ∧ i_Rel (k + 6) (nI n, nI 0, nI b, deep, res, thr, thn, (fun zz => nI (CL zz)), cStr, cOp, cA, cB, (fun zz => nI (OK zz)), oKin, oOpen, xFc, xFs, xPc', xKo', xPk', (fun zz => ob_xa (tw' zz) (te' zz) (tc' zz)), pVal', xSet', (fun zz => nI (S zz)), aOut, aVar, (fun zz => nI (FC zz)), (fun zz => nI (FP zz)), (fun zz => nI (FA zz)), (fun zz => nI (FH zz)), (fun zz => nI (XH zz)), (fun zz => nI (FT zz)), fSelf, xHeld, stk, (fun zz => nI (TA zz)), (fun zz => nI (TH zz)), xArg) v') v4 (ob_gv v3) (ob_yf false (a.val.testBit 1) (a.val.testBit 2)) (ob_ys false (a.val.testBit 0) (a.val.testBit 3) false (a.val.testBit 4) (a.val.testBit 5)) (nI j) (nI o) (nI n) (nI m) yGiven (nI 0) deep (nI b) thr thn res cStr (fun zz => nI (CL zz)) cOp cA cB (fun zz => nI (OK zz)) oKin yCo yAr oOpen (fun zz => nI (M zz)) (fun zz => ob_yf (tw zz) (te zz) (tc zz)) yPair ySeen pVal ySet (fun zz => ob_th (S zz)) yStay aOut aVar yArg (fun zz => nI (FC zz)) (fun zz => nI (FA zz)) (fun zz => nI (FP zz)) (fun zz => nI (FH zz)) yHan (fun zz => nI (FT zz)) (fun zz => nI (TA zz)) (fun zz => nI (TH zz)) fSelf yKept stk := by
            unfold wY_accessor_132
            by_cases h4 : 0 ≤ v4
            · rw [show ob_gv v4 = 17179869184 + v4.toInt64 from if_pos h4] at h150
              exact br_t h4 h150
            · rw [show ob_gv v4 = 8589934592 from if_neg h4] at h150
              exact br_f h4 h150
          unfold wY_accessor_54
          rw [ob_aS a, ob_aO a]
          refine nm_e ?_
          by_cases h3 : 0 ≤ v3
          · rw [show ob_gv v3 = 17179869184 + v3.toInt64 from if_pos h3] at h132
            exact br_t h3 h132
          · rw [show ob_gv v3 = 8589934592 from if_neg h3] at h132
            exact br_f h3 h132
      /- the setter -/
      have hset : (a.val.testBit 0 = true → ob_V n (ob_gv v3)) → (∀ post : Int32 → SY → Prop, wY_accessor_35 post (nI o) (nI j) v3 v4 (nI a.val) (nI n) (nI m) yGiven (nI 0) deep (nI b) thr thn res cStr (fun zz => nI (CL zz)) cOp cA cB (fun zz => nI (OK zz)) oKin yCo yAr oOpen (fun zz => nI (M zz)) (fun zz => ob_yf (tw zz) (te zz) (tc zz)) yPair ySeen pVal ySet (fun zz => ob_th (S zz)) yStay aOut aVar yArg (fun zz => nI (FC zz)) (fun zz => nI (FA zz)) (fun zz => nI (FP zz)) (fun zz => nI (FH zz)) yHan (fun zz => nI (FT zz)) (fun zz => nI (TA zz)) (fun zz => nI (TH zz)) fSelf yKept stk → wpY_accessor post (nI n, nI m, yGiven, nI 0, deep, nI b, thr, thn, res, cStr, (fun zz => nI (CL zz)), cOp, cA, cB, (fun zz => nI (OK zz)), oKin, yCo, yAr, oOpen, (fun zz => nI (M zz)), (fun zz => ob_yf (tw zz) (te zz) (tc zz)), yPair, ySeen, pVal, ySet, (fun zz => ob_th (S zz)), yStay, aOut, aVar, yArg, (fun zz => nI (FC zz)), (fun zz => nI (FA zz)), (fun zz => nI (FP zz)), (fun zz => nI (FH zz)), yHan, (fun zz => nI (FT zz)), (fun zz => nI (TA zz)), (fun zz => nI (TH zz)), fSelf, yKept, stk) (nI o) (nI j) v3 v4 (nI a.val)) → wX_accessor_65 (fun r u' => wpY_accessor (fun r' v' => r' = r ∧ i_Rel (k + 6) u' v') (nI n, nI m, yGiven, nI 0, deep, nI b, thr, thn, res, cStr, (fun zz => nI (CL zz)), cOp, cA, cB, (fun zz => nI (OK zz)), oKin, yCo, yAr, oOpen, (fun zz => nI (M zz)), (fun zz => ob_yf (tw zz) (te zz) (tc zz)), yPair, ySeen, pVal, ySet, (fun zz => ob_th (S zz)), yStay, aOut, aVar, yArg, (fun zz => nI (FC zz)), (fun zz => nI (FA zz)), (fun zz => nI (FP zz)), (fun zz => nI (FH zz)), yHan, (fun zz => nI (FT zz)), (fun zz => nI (TA zz)), (fun zz => nI (TH zz)), fSelf, yKept, stk) (nI o) (nI j) v3 v4 (nI a.val)) (nI o) (nI j) v3 v4 (nI a.val) (ob_01 (a.val.testBit 0)) (ob_01 (a.val.testBit 3)) (nI n) (nI 0) (nI b) deep res thr thn (fun zz => nI (CL zz)) cStr cOp cA cB (fun zz => nI (OK zz)) oKin oOpen xFc xFs xPc xKo xPk (fun zz => ob_xa (tw zz) (te zz) (tc zz)) pVal xSet (fun zz => nI (S zz)) aOut aVar (fun zz => nI (FC zz)) (fun zz => nI (FP zz)) (fun zz => nI (FA zz)) (fun zz => nI (FH zz)) (fun zz => nI (XH zz)) (fun zz => nI (FT zz)) fSelf xHeld stk (fun zz => nI (TA zz)) (fun zz => nI (TH zz)) xArg := by
        intro hv hY35
        unfold wX_accessor_65
        cases hb : a.val.testBit 3
        · obtain ⟨u', r, h1, h2⟩ := hmain hv (fun z => absurd (hb.symm.trans z) (by decide))
          rw [hb] at h1
          refine br_t rfl (h1 _ (hY35 _ ?_))
          unfold wY_accessor_35
          exact br_t ((ob_a1 a).2.mpr hb) h2
        · have hn8 : ¬ (nI a.val &&& 8) = 0 := fun z => absurd (hb.symm.trans ((ob_a1 a).2.mp z)) (by decide)
          refine br_f (by decide) ?_
          rcases ob_half (n := n) (d := 0) (b := b) (m := m) (deep := deep) (res := res) (thr := thr) (thn := thn) (CL := CL) (cStr := cStr) (cOp := cOp) (cA := cA) (cB := cB) (OK := OK) (oKin := oKin) (oOpen := oOpen) (pVal := pVal) (aOut := aOut) (aVar := aVar) (FC := FC) (FA := FA) (FP := FP) (FH := FH) (FT := FT) (fSelf := fSelf) (stk := stk) (TA := TA) (TH := TH) (xFc := xFc) (xFs := xFs) (xPc := xPc) (xKo := xKo) (xPk := xPk) (tw := tw) (te := te) (tc := tc) (xSet := xSet) (S := S) (XH := XH) (xHeld := xHeld) (xArg := xArg) (yCo := yCo) (yAr := yAr) (M := M) (yPair := yPair) (ySeen := ySeen) (ySet := ySet) (yStay := yStay) (yArg := yArg) (yHan := yHan) (yKept := yKept) (yGiven := yGiven) R.2.1 v4 with ⟨hw, hXh, hYh⟩ | ⟨hXh, hYh⟩
          · obtain ⟨u', r, h1, h2⟩ := hmain hv (fun _ => hw)
            rw [hb] at h1
            refine hXh _ (br_f (by decide) (h1 _ (hY35 _ ?_)))
            unfold wY_accessor_35
            exact br_f hn8 (hYh _ (br_f (by decide) h2))
          · refine hXh _ (br_t rfl (hY35 _ ?_))
            unfold wY_accessor_35
            exact br_f hn8 (hYh _ (br_t rfl ⟨rfl, J⟩))
      have h35 : wX_accessor_35 (fun r u' => wpY_accessor (fun r' v' => r' = r ∧ i_Rel (k + 6) u' v') (nI n, nI m, yGiven, nI 0, deep, nI b, thr, thn, res, cStr, (fun zz => nI (CL zz)), cOp, cA, cB, (fun zz => nI (OK zz)), oKin, yCo, yAr, oOpen, (fun zz => nI (M zz)), (fun zz => ob_yf (tw zz) (te zz) (tc zz)), yPair, ySeen, pVal, ySet, (fun zz => ob_th (S zz)), yStay, aOut, aVar, yArg, (fun zz => nI (FC zz)), (fun zz => nI (FA zz)), (fun zz => nI (FP zz)), (fun zz => nI (FH zz)), yHan, (fun zz => nI (FT zz)), (fun zz => nI (TA zz)), (fun zz => nI (TH zz)), fSelf, yKept, stk) (nI o) (nI j) v3 v4 (nI a.val)) (nI o) (nI j) v3 v4 (nI a.val) (ob_01 (a.val.testBit 0)) (nI n) (nI 0) (nI b) deep res thr thn (fun zz => nI (CL zz)) cStr cOp cA cB (fun zz => nI (OK zz)) oKin oOpen xFc xFs xPc xKo xPk (fun zz => ob_xa (tw zz) (te zz) (tc zz)) pVal xSet (fun zz => nI (S zz)) aOut aVar (fun zz => nI (FC zz)) (fun zz => nI (FP zz)) (fun zz => nI (FA zz)) (fun zz => nI (FH zz)) (fun zz => nI (XH zz)) (fun zz => nI (FT zz)) fSelf xHeld stk (fun zz => nI (TA zz)) (fun zz => nI (TH zz)) xArg := by
        have h50 : wX_accessor_50 (fun r u' => wpY_accessor (fun r' v' => r' = r ∧ i_Rel (k + 6) u' v') (nI n, nI m, yGiven, nI 0, deep, nI b, thr, thn, res, cStr, (fun zz => nI (CL zz)), cOp, cA, cB, (fun zz => nI (OK zz)), oKin, yCo, yAr, oOpen, (fun zz => nI (M zz)), (fun zz => ob_yf (tw zz) (te zz) (tc zz)), yPair, ySeen, pVal, ySet, (fun zz => ob_th (S zz)), yStay, aOut, aVar, yArg, (fun zz => nI (FC zz)), (fun zz => nI (FA zz)), (fun zz => nI (FP zz)), (fun zz => nI (FH zz)), yHan, (fun zz => nI (FT zz)), (fun zz => nI (TA zz)), (fun zz => nI (TH zz)), fSelf, yKept, stk) (nI o) (nI j) v3 v4 (nI a.val)) (nI o) (nI j) v3 v4 (nI a.val) (ob_01 (a.val.testBit 0)) (ob_01 (a.val.testBit 3)) (nI n) (nI 0) (nI b) deep res thr thn (fun zz => nI (CL zz)) cStr cOp cA cB (fun zz => nI (OK zz)) oKin oOpen xFc xFs xPc xKo xPk (fun zz => ob_xa (tw zz) (te zz) (tc zz)) pVal xSet (fun zz => nI (S zz)) aOut aVar (fun zz => nI (FC zz)) (fun zz => nI (FP zz)) (fun zz => nI (FA zz)) (fun zz => nI (FH zz)) (fun zz => nI (XH zz)) (fun zz => nI (FT zz)) fSelf xHeld stk (fun zz => nI (TA zz)) (fun zz => nI (TH zz)) xArg := by
          unfold wX_accessor_50
          cases hb : a.val.testBit 0
          · rw [hb] at hset
            exact br_t rfl (hset (fun z => absurd z (by decide)) (fun post h => hY0 post (br_t ((ob_a1 a).1.mpr hb) h)))
          · have hn1 : ¬ (nI a.val &&& 1) = 0 := fun z => absurd (hb.symm.trans ((ob_a1 a).1.mp z)) (by decide)
            rw [hb] at hset
            refine br_f (by decide) ?_
            rcases ob_half (n := n) (d := 0) (b := b) (m := m) (deep := deep) (res := res) (thr := thr) (thn := thn) (CL := CL) (cStr := cStr) (cOp := cOp) (cA := cA) (cB := cB) (OK := OK) (oKin := oKin) (oOpen := oOpen) (pVal := pVal) (aOut := aOut) (aVar := aVar) (FC := FC) (FA := FA) (FP := FP) (FH := FH) (FT := FT) (fSelf := fSelf) (stk := stk) (TA := TA) (TH := TH) (xFc := xFc) (xFs := xFs) (xPc := xPc) (xKo := xKo) (xPk := xPk) (tw := tw) (te := te) (tc := tc) (xSet := xSet) (S := S) (XH := XH) (xHeld := xHeld) (xArg := xArg) (yCo := yCo) (yAr := yAr) (M := M) (yPair := yPair) (ySeen := ySeen) (ySet := ySet) (yStay := yStay) (yArg := yArg) (yHan := yHan) (yKept := yKept) (yGiven := yGiven) R.2.1 v3 with ⟨hw, hXh, hYh⟩ | ⟨hXh, hYh⟩
            · exact hXh _ (br_f (by decide) (hset (fun _ => hw) (fun post h => hY0 post (br_f hn1 (hYh _ (br_f (by decide) h))))))
            · exact hXh _ (br_t rfl (hY0 _ (br_f hn1 (hYh _ (br_t rfl ⟨rfl, J⟩)))))
        unfold wX_accessor_35
        cases hb : a.val.testBit 3
        · rw [hb] at h50
          exact br_t ((ob_a1 a).2.mpr hb) h50
        · rw [hb] at h50
          exact br_f (fun z => absurd (hb.symm.trans ((ob_a1 a).2.mp z)) (by decide)) h50
      cases hb : a.val.testBit 0
      · rw [hb] at h35
        exact br_t ((ob_a1 a).1.mpr hb) h35
      · rw [hb] at h35
        exact br_f (fun z => absurd (hb.symm.trans ((ob_a1 a).1.mp z)) (by decide)) h35
    · refine hX _ (br_f (by decide) ?_)
      have hYn : ∀ post : Int32 → SY → Prop, post (-1) (nI n, nI m, yGiven, nI 0, deep, nI b, thr, thn, res, cStr, (fun zz => nI (CL zz)), cOp, cA, cB, (fun zz => nI (OK zz)), oKin, yCo, yAr, oOpen, (fun zz => nI (M zz)), (fun zz => ob_yf (tw zz) (te zz) (tc zz)), yPair, ySeen, pVal, ySet, (fun zz => ob_th (S zz)), yStay, aOut, aVar, yArg, (fun zz => nI (FC zz)), (fun zz => nI (FA zz)), (fun zz => nI (FP zz)), (fun zz => nI (FH zz)), yHan, (fun zz => nI (FT zz)), (fun zz => nI (TA zz)), (fun zz => nI (TH zz)), fSelf, yKept, stk) → wpY_accessor post (nI n, nI m, yGiven, nI 0, deep, nI b, thr, thn, res, cStr, (fun zz => nI (CL zz)), cOp, cA, cB, (fun zz => nI (OK zz)), oKin, yCo, yAr, oOpen, (fun zz => nI (M zz)), (fun zz => ob_yf (tw zz) (te zz) (tc zz)), yPair, ySeen, pVal, ySet, (fun zz => ob_th (S zz)), yStay, aOut, aVar, yArg, (fun zz => nI (FC zz)), (fun zz => nI (FA zz)), (fun zz => nI (FP zz)), (fun zz => nI (FH zz)), yHan, (fun zz => nI (FT zz)), (fun zz => nI (TA zz)), (fun zz => nI (TH zz)), fSelf, yKept, stk) (nI o) (nI j) v3 v4 v5 := by
        intro post hp
        unfold wpY_accessor
        exact hY _ (br_f (by decide) (ob_inF h _ (br_t rfl hp)))
      by_cases h0 : v5 < 0
      · exact br_t h0 (hYn _ ⟨rfl, J⟩)
      · exact br_f h0 (br_f (Int32.not_le.mpr (h.resolve_left h0)) (hYn _ ⟨rfl, J⟩))
  · refine hX _ (br_t rfl ?_)
    unfold wpY_accessor
    exact hY _ (br_t rfl ⟨rfl, J⟩)
