/-! ===== own ===== -/
theorem i_vc_own {k : Nat} {u : SX} {v : SY} (I : i_Rel k u v) (hk : k + 6 ≤ 3072) (v1 : Int32) (v2 : Int32) (v3 : Int32) : wpX_own (fun r => wpY_own (fun r' => r' = r ∧ i_Rel (k + 6) u v) v v1 v2 v3) u v1 v2 v3 := by
  have J := i_up I
  obtain ⟨n, b, m, deep, res, thr, thn, CL, cStr, cOp, cA, cB, OK, oKin, oOpen, pVal, aOut, aVar, FC, FA, FP, FH, FT, fSelf, stk, TA, TH, xFc, xFs, xPc, xKo, xPk, tw, te, tc, xSet, S, XH, xHeld, xArg, yCo, yAr, M, yPair, ySeen, ySet, yStay, yArg, yHan, yKept, yGiven, rfl, rfl, R, hm⟩ := I
  have h3 := R.2.1.1
  unfold wpX_own
  rcases ob_isP (n := n) (d := 0) (b := b) (m := m) (deep := deep) (res := res) (thr := thr) (thn := thn) (CL := CL) (cStr := cStr) (cOp := cOp) (cA := cA) (cB := cB) (OK := OK) (oKin := oKin) (oOpen := oOpen) (pVal := pVal) (aOut := aOut) (aVar := aVar) (FC := FC) (FA := FA) (FP := FP) (FH := FH) (FT := FT) (fSelf := fSelf) (stk := stk) (TA := TA) (TH := TH) (xFc := xFc) (xFs := xFs) (xPc := xPc) (xKo := xKo) (xPk := xPk) (tw := tw) (te := te) (tc := tc) (xSet := xSet) (S := S) (XH := XH) (xHeld := xHeld) (xArg := xArg) (yCo := yCo) (yAr := yAr) (M := M) (yPair := yPair) (ySeen := ySeen) (ySet := ySet) (yStay := yStay) (yArg := yArg) (yHan := yHan) (yKept := yKept) (yGiven := yGiven) R.2.1 v1 v2 with ⟨o, j, ho, hj, rfl, rfl, hX, hY⟩ | ⟨hX, hY⟩
  · have hi : 32 * o + j < 1024 := by omega
    have hin : vp_in (nI (32 * o + j)) 1024 := vp_in_nI hi (by decide)
    have hcl : (nI (32 * o + j)).toNatClampNeg = 32 * o + j := ob_cl hi
    have hMm := R.2.2.1.1 (32 * o + j)
    have hsl := R.2.2.1.2.2 (32 * o + j) (by omega)
    obtain ⟨L, hl1, hl2, hl3⟩ := R.2.2.2.1 o ho
    have hlen := ob_ord_len hl3
    have hYout : (v3 < 0 ∨ 4 < v3) → ∀ post : Int64 → Prop, post 8589934592 → wpY_own post (nI n, nI m, yGiven, nI 0, deep, nI b, thr, thn, res, cStr, (fun zz => nI (CL zz)), cOp, cA, cB, (fun zz => nI (OK zz)), oKin, yCo, yAr, oOpen, (fun zz => nI (M zz)), (fun zz => ob_yf (tw zz) (te zz) (tc zz)), yPair, ySeen, pVal, ySet, (fun zz => ob_th (S zz)), yStay, aOut, aVar, yArg, (fun zz => nI (FC zz)), (fun zz => nI (FA zz)), (fun zz => nI (FP zz)), (fun zz => nI (FH zz)), yHan, (fun zz => nI (FT zz)), (fun zz => nI (TA zz)), (fun zz => nI (TH zz)), fSelf, yKept, stk) (nI o) (nI j) v3 := by
      intro h post hp
      unfold wpY_own
      exact hY _ (br_f (by decide) (ob_inF h _ (br_t rfl hp)))
    have hYab : ∀ q, q < 5 → v3 = nI q → M (32 * o + j) = 0 → ∀ post : Int64 → Prop, ((v3 = 0 → post 0) ∧ (¬ v3 = 0 → post 8589934592)) → wpY_own post (nI n, nI m, yGiven, nI 0, deep, nI b, thr, thn, res, cStr, (fun zz => nI (CL zz)), cOp, cA, cB, (fun zz => nI (OK zz)), oKin, yCo, yAr, oOpen, (fun zz => nI (M zz)), (fun zz => ob_yf (tw zz) (te zz) (tc zz)), yPair, ySeen, pVal, ySet, (fun zz => ob_th (S zz)), yStay, aOut, aVar, yArg, (fun zz => nI (FC zz)), (fun zz => nI (FA zz)), (fun zz => nI (FP zz)), (fun zz => nI (FH zz)), yHan, (fun zz => nI (FT zz)), (fun zz => nI (TA zz)), (fun zz => nI (TH zz)), fSelf, yKept, stk) (nI o) (nI j) v3 := by
      intro q hq e hz post hp
      unfold wpY_own
      rw [e] at hp ⊢
      refine hY _ (br_f (by decide) (ob_inT (b := 0) (c := 4) (by omega) (by omega) (by decide) _ (br_f (by decide) (nm_r (ob_iy o j) ⟨hin, ?_⟩))))
      rw [hcl]
      exact br_t (congrArg nI hz) hp
    have hYpr : ∀ q, q < 5 → M (32 * o + j) ≠ 0 → ∀ post : Int64 → Prop, wY_own_61 post (nI o) (nI q) (nI (32 * o + j)) (nI n) (nI m) yGiven (nI 0) deep (nI b) thr thn res cStr (fun zz => nI (CL zz)) cOp cA cB (fun zz => nI (OK zz)) oKin yCo yAr oOpen (fun zz => nI (M zz)) (fun zz => ob_yf (tw zz) (te zz) (tc zz)) yPair ySeen pVal ySet (fun zz => ob_th (S zz)) yStay aOut aVar yArg (fun zz => nI (FC zz)) (fun zz => nI (FA zz)) (fun zz => nI (FP zz)) (fun zz => nI (FH zz)) yHan (fun zz => nI (FT zz)) (fun zz => nI (TA zz)) (fun zz => nI (TH zz)) fSelf yKept stk 1 (nI ((List.range 32).countP (fun k => decide (M (32 * o + k) ≠ 0 ∧ M (32 * o + k) < M (32 * o + j))))) (nI (32 * o + 32)) → wpY_own post (nI n, nI m, yGiven, nI 0, deep, nI b, thr, thn, res, cStr, (fun zz => nI (CL zz)), cOp, cA, cB, (fun zz => nI (OK zz)), oKin, yCo, yAr, oOpen, (fun zz => nI (M zz)), (fun zz => ob_yf (tw zz) (te zz) (tc zz)), yPair, ySeen, pVal, ySet, (fun zz => ob_th (S zz)), yStay, aOut, aVar, yArg, (fun zz => nI (FC zz)), (fun zz => nI (FA zz)), (fun zz => nI (FP zz)), (fun zz => nI (FH zz)), yHan, (fun zz => nI (FT zz)), (fun zz => nI (TA zz)), (fun zz => nI (TH zz)), fSelf, yKept, stk) (nI o) (nI j) (nI q) := by
      intro q hq hz post hp
      unfold wpY_own
      refine hY _ (br_f (by decide) (ob_inT (b := 0) (c := 4) (by omega) (by omega) (by decide) _ (br_f (by decide) (nm_r (ob_iy o j) ⟨hin, ?_⟩))))
      rw [hcl]
      refine br_f (fun z => hz ((nI_eq (b := 0) (by omega) (by decide)).mp z)) (nm_r (e' := nI (32 * o)) (pk_mul 32 o) ⟨33, ?_⟩)
      exact ob_ownY (by omega) hi R.2.2.1.1 (by omega) post hp 32 0 rfl
    have e32 : 32 * nI o + 32 = nI (32 * o + 32) := ob_iy o 32
    refine hX _ (br_f (by decide) (nm_r (ob_ix o j) ⟨hin, ?_⟩))
    rw [hcl]
    refine nm_e ?_
    rcases pk_ix v3 (n := 5) (by decide) with h | h | ⟨q, hq, rfl⟩
    · have hn0 : ¬ v3 = 0 := fun z => by rw [z] at h; exact absurd h (by decide)
      have hlt1 : v3 < 1 := Int32.lt_trans h (by decide)
      exact br_f hn0 (br_c (fun _ => hYout (Or.inl h) _ ⟨rfl, J⟩) (fun _ => br_t hlt1 (hYout (Or.inl h) _ ⟨rfl, J⟩)))
    · have h4 : 4 < v3 := Int32.lt_of_lt_of_le (by decide) h
      have hn0 : ¬ v3 = 0 := fun z => by rw [z] at h4; exact absurd h4 (by decide)
      have hn1 : ¬ v3 < 1 := fun z => absurd (Int32.lt_trans h4 z) (by decide)
      exact br_f hn0 (br_c (fun _ => hYout (Or.inr h4) _ ⟨rfl, J⟩) (fun _ => br_f hn1 (br_t h4 (hYout (Or.inr h4) _ ⟨rfl, J⟩))))
    · rcases hsl with ⟨hz, hpk⟩ | ⟨hz, hv, hs⟩
      · by_cases hq0 : q = 0
        · subst hq0
          refine br_t rfl (hYab 0 (by decide) rfl hz _ (br_t rfl ?_))
          rw [hpk]
          exact ⟨rfl, J⟩
        · have hn0 : ¬ nI q = 0 := fun z => hq0 ((nI_eq (b := 0) (by omega) (by decide)).mp z)
          exact br_f hn0 (br_t hpk (hYab q hq rfl hz _ (br_f hn0 ⟨rfl, J⟩)))
      · have hpk0 : ¬ xPk (32 * o + j) = 0 := by
          rcases hs with h | h
          · rw [h.2]; decide
          · rw [h.2.1]; decide
        have hc5 : q = 0 ∨ q = 1 ∨ q = 2 ∨ q = 3 ∨ q = 4 := by omega
        rcases hc5 with rfl | rfl | rfl | rfl | rfl
        · refine br_t rfl (hYpr 0 (by decide) hz _ ?_)
          unfold wY_own_61
          rw [e32]
          refine br_t (Int32.le_refl _) (br_f (by decide) (br_f (by decide) ⟨hin, ?_⟩))
          rw [hcl]
          rcases hs with ⟨h1, h2⟩ | ⟨h1, h2, _⟩
          · rw [h2]
            exact br_t h1 ⟨rfl, J⟩
          · rw [h2]
            exact br_f (by rw [h1]; decide) ⟨rfl, J⟩
        · refine br_f (by decide) (br_f hpk0 (br_f (by decide) (br_f (by decide) (br_t rfl ⟨hin, hYpr 1 (by decide) hz _ ?_⟩))))
          unfold wY_own_61
          rw [e32, hcl]
          refine br_t (Int32.le_refl _) (br_f (by decide) (br_t rfl ⟨hin, by decide, by decide, hin, by decide, by decide, hin, by decide, by decide, ?_⟩))
          refine ⟨?_, J⟩
          exact congrArg Int32.toInt64 (ob_fl1 _ _ _)
        · refine br_f (by decide) (br_f hpk0 (br_f (by decide) (br_f (by decide) (br_f (by decide) (br_t rfl ⟨hin, hYpr 2 (by decide) hz _ ?_⟩)))))
          unfold wY_own_61
          rw [e32, hcl]
          exact br_t (Int32.le_refl _) (br_t (by decide) (br_t rfl ⟨hin, rfl, J⟩))
        · refine br_f (by decide) (br_f hpk0 (br_f (by decide) (br_f (by decide) (br_f (by decide) (br_f (by decide) (br_t rfl ?_))))))
          rcases hs with ⟨h1, h2⟩ | ⟨h1, h2, _, h4, _⟩
          · refine br_f (by rw [h2]; decide) (hYpr 3 (by decide) hz _ ?_)
            unfold wY_own_61
            rw [e32, hcl]
            exact br_t (Int32.le_refl _) (br_t (by decide) (br_f (by decide) (br_f (by decide) ⟨hin, br_t h1 ⟨rfl, J⟩⟩)))
          · refine br_t h2 ⟨hin, hYpr 3 (by decide) hz _ ?_⟩
            unfold wY_own_61
            rw [e32, hcl]
            exact br_t (Int32.le_refl _) (br_t (by decide) (br_f (by decide) (br_f (by decide) ⟨hin, br_f (by rw [h1]; decide) ⟨hin, h4.symm, J⟩⟩)))
        · refine br_f (by decide) (br_f hpk0 (br_f (by decide) (br_f (by decide) (br_f (by decide) (br_f (by decide) (br_f (by decide) (br_t rfl ?_)))))))
          have hmem := (hl3.2 j).mpr ⟨hj, hz⟩
          obtain ⟨p, hp, hpe⟩ := List.getElem_of_mem hmem
          have hpq : L[p]? = some j := List.getElem?_eq_some_iff.mpr ⟨hp, hpe⟩
          have hx : ∀ p x, L[p]? = some x → xKo (32 * o + p) = nI x ∧ x < 32 := fun p x hpx => ⟨hl2 p x hpx, ((hl3.2 x).mp (List.mem_of_getElem? hpx)).1⟩
          unfold wpX_placeInOrder
          refine ⟨vp_in_nI (by omega) (by decide), ?_⟩
          rw [ob_cl (by omega), hl1]
          refine nm_e ⟨p + 1, ob_plX (by omega) hlen hx hj (ob_ord_nd hl3) hpq _ ?_ p 0 rfl⟩
          have hcp := ob_ord_pl hl3 hp
          rw [hpe] at hcp
          refine hYpr 4 (by decide) hz _ ?_
          rw [hcp]
          unfold wY_own_61
          rw [e32]
          exact br_t (Int32.le_refl _) (br_t (by decide) (br_f (by decide) (br_t rfl ⟨rfl, J⟩)))
  · refine hX _ (br_t rfl ?_)
    unfold wpY_own
    exact hY _ (br_t rfl ⟨rfl, J⟩)
