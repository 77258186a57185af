/-! ===== a property is stored: the groups behind it ===== -/
section
variable {n : Nat} {d : Nat} {b : Nat} {m : Nat} {deep : Int32} {res : Int64} {thr : Int32} {thn : Int64} {CL : Nat → Nat} {cStr : Nat → Int32} {cOp : Nat → Int32} {cA : Nat → Int32} {cB : Nat → Int32} {OK : Nat → Nat} {oKin : Nat → Int32} {oOpen : Nat → Int32} {pVal : Nat → Int64} {aOut : Nat → Int32} {aVar : Nat → Int64} {FC : Nat → Nat} {FA : Nat → Nat} {FP : Nat → Nat} {FH : Nat → Nat} {FT : Nat → Nat} {fSelf : Nat → Int64} {stk : Nat → Int64} {TA : Nat → Nat} {TH : Nat → Nat} {xFc : Nat → Int32} {xFs : Nat → Int32} {xPc : Nat → Int32} {xKo : Nat → Int32} {xPk : Nat → Int32} {tw : Nat → Bool} {te : Nat → Bool} {tc : Nat → Bool} {xSet : Nat → Int64} {S : Nat → Nat} {XH : Nat → Nat} {xHeld : Nat → Int64} {xArg : Nat → Int64} {yCo : Nat → Int32} {yAr : Nat → Int32} {M : Nat → Nat} {yPair : Nat → Int32} {ySeen : Nat → Int32} {ySet : Nat → Int64} {yStay : Nat → Int32} {yArg : Nat → Int64} {yHan : Nat → Int32} {yKept : Nat → Int64} {yGiven : Int32}
variable {o k : Nat} {sV sG sS sW sE sC oW oE oC pW pE pC : Bool} {v w wy : Int64}
theorem ob_store (hpo : ob_po sW sE sC oW oE oC pW pE pC) (hO : ob_gO n OK oKin) (hP : ob_gP n m M pVal xPk tw xSet yPair ySet) (hL : ob_gL n M xPc xKo) (ho : o < n) (hk : k < 32) (hm : m < 2 ^ 31) (hDA : ((sV || sW) && (sG || sS)) = false)
    (hv : (sV || sG) = true → ob_V n v) (hw : sS = true → ob_V n wy ∧ w = wy) :
    ∃ (m' : Nat) (M' : Nat → Nat) (xPc' : Nat → Int32) (xKo' : Nat → Int32) (pVal' : Nat → Int64) (xPk' : Nat → Int32) (tw' : Nat → Bool) (te' : Nat → Bool) (tc' : Nat → Bool) (xSet' : Nat → Int64) (yPair' : Nat → Int32) (ySet' : Nat → Int64), ob_gP n m' M' pVal' xPk' tw' xSet' yPair' ySet' ∧ ob_gL n M' xPc' xKo' ∧ m ≤ m' ∧ m' ≤ m + 1 ∧ M' (32 * o + k) ≠ 0 ∧
      (∀ j, j ≠ 32 * o + k → M' j = M j ∧ pVal' j = pVal j ∧ yPair' j = yPair j ∧ tc' j = tc j) ∧
      (M (32 * o + k) ≠ 0 → yPair (32 * o + k) = 0 → (sG || sS) = false → yPair' (32 * o + k) = 0 ∧ pVal' (32 * o + k) = (if (sV || sG) = true then v else pVal (32 * o + k)) ∧ tc' (32 * o + k) = if sC = true then oC else tc (32 * o + k)) ∧
      (sV = true → sG = false → sS = false → yPair' (32 * o + k) = 0 ∧ pVal' (32 * o + k) = v ∧ (M (32 * o + k) = 0 → tc' (32 * o + k) = if sC = true then oC else false)) ∧
      (∀ post : SX → Prop, post (nI n, nI d, nI b, deep, res, thr, thn, (fun zz => nI (CL zz)), cStr, cOp, cA, cB, (fun zz => nI (OK zz)), oKin, oOpen, xFc, xFs, xPc', xKo', xPk', (fun zz => ob_xa (tw' zz) (te' zz) (tc' zz)), pVal', xSet', (fun zz => nI (S zz)), aOut, aVar, (fun zz => nI (FC zz)), (fun zz => nI (FP zz)), (fun zz => nI (FA zz)), (fun zz => nI (FH zz)), (fun zz => nI (XH zz)), (fun zz => nI (FT zz)), fSelf, xHeld, stk, (fun zz => nI (TA zz)), (fun zz => nI (TH zz)), xArg) → wpX_storeProperty post (nI n, nI d, nI b, deep, res, thr, thn, (fun zz => nI (CL zz)), cStr, cOp, cA, cB, (fun zz => nI (OK zz)), oKin, oOpen, xFc, xFs, xPc, xKo, xPk, (fun zz => ob_xa (tw zz) (te zz) (tc zz)), pVal, xSet, (fun zz => nI (S zz)), aOut, aVar, (fun zz => nI (FC zz)), (fun zz => nI (FP zz)), (fun zz => nI (FA zz)), (fun zz => nI (FH zz)), (fun zz => nI (XH zz)), (fun zz => nI (FT zz)), fSelf, xHeld, stk, (fun zz => nI (TA zz)), (fun zz => nI (TH zz)), xArg) (nI o) (nI k) (ob_xs sV sG sS sW sE sC oW oE oC) v w) ∧
      (∀ post : SY → Prop, post (nI n, nI m', yGiven, nI d, deep, nI b, thr, thn, res, cStr, (fun zz => nI (CL zz)), cOp, cA, cB, (fun zz => nI (OK zz)), oKin, yCo, yAr, oOpen, (fun zz => nI (M' zz)), (fun zz => ob_yf (tw' zz) (te' zz) (tc' zz)), yPair', ySeen, pVal', ySet', (fun zz => ob_th (S zz)), yStay, aOut, aVar, yArg, (fun zz => nI (FC zz)), (fun zz => nI (FA zz)), (fun zz => nI (FP zz)), (fun zz => nI (FH zz)), yHan, (fun zz => nI (FT zz)), (fun zz => nI (TA zz)), (fun zz => nI (TH zz)), fSelf, yKept, stk) → wpY_apply post (nI n, nI m, yGiven, nI d, deep, nI b, thr, thn, res, cStr, (fun zz => nI (CL zz)), cOp, cA, cB, (fun zz => nI (OK zz)), oKin, yCo, yAr, oOpen, (fun zz => nI (M zz)), (fun zz => ob_yf (tw zz) (te zz) (tc zz)), yPair, ySeen, pVal, ySet, (fun zz => ob_th (S zz)), yStay, aOut, aVar, yArg, (fun zz => nI (FC zz)), (fun zz => nI (FA zz)), (fun zz => nI (FP zz)), (fun zz => nI (FH zz)), yHan, (fun zz => nI (FT zz)), (fun zz => nI (TA zz)), (fun zz => nI (TH zz)), fSelf, yKept, stk) (nI (32 * o + k)) (ob_ys sV sG sS sW sE sC) (ob_yf pW pE pC) v wy) := by
  have hn : n ≤ 32 := hO.1.2
  have hi : 32 * o + k < 1024 := by omega
  have hnv : ∀ (cv : Bool) (old : Int64), (cv = false → ob_V n old) → ob_V n (ob_nv (sV || sG) cv v old) := by
    intro cv old h
    unfold ob_nv
    cases hs : (sV || sG)
    · rw [if_neg (by decide)]
      cases cv
      · exact h rfl
      · exact ob_V_U n
    · exact hv hs
  have hnw : ∀ (cv : Bool) (old : Int64), (cv = false → ob_V n old) → ob_V n (ob_nv sS cv wy old) := by
    intro cv old h
    unfold ob_nv
    cases hs : sS
    · rw [if_neg (by decide)]
      cases cv
      · exact h rfl
      · exact ob_V_U n
    · exact (hw hs).1
  have hnn : ∀ (cv : Bool) (old : Int64), ob_nv sS cv w old = ob_nv sS cv wy old := by
    intro cv old
    unfold ob_nv
    cases hs : sS
    · rfl
    · exact (hw hs).2
  by_cases hM : M (32 * o + k) = 0
  · have hpk := (ob_sl_0 (hP.2.2 (32 * o + k) (by omega))).mpr hM
    obtain ⟨c, hc, hpc, hL'⟩ := ob_gL_add hL hP.1 ho hk hM
    refine ⟨m + 1, ob_um M (32 * o + k) (m + 1), upd xPc o (nI (c + 1)), upd xKo (32 * o + c) (nI k), vp_updL pVal (32 * o + k) (ob_nv (sV || sG) true v (pVal (32 * o + k))), upd xPk (32 * o + k) (ob_kd (sV || sW) (sG || sS) 1),
      ob_ub tw (32 * o + k) (if sW then oW else false), ob_ub te (32 * o + k) (if sE then oE else false), ob_ub tc (32 * o + k) (if sC then oC else false), vp_updL xSet (32 * o + k) (ob_nv sS true w (xSet (32 * o + k))), upd yPair (32 * o + k) (ob_01 (sG || sS)), vp_updL ySet (32 * o + k) (ob_nv sS (sG || sS) wy (ySet (32 * o + k))), ?_, hL', by omega, by omega, by rw [ob_um_s]; omega, ?_, fun h => absurd hM h, ?_, fun post hp => ob_stXn (by omega) hk hpk hc hpc post hp, fun post hp => ob_apYn hpo hi hM hDA post hp⟩
    · refine ob_gP_c (i := 32 * o + k) hP (fun j => ?_) (fun j hj => ?_) (fun j hj hne => ?_) (fun _ => ?_)
      · unfold ob_um
        have := hP.1 j
        split <;> omega
      · rw [ob_um_n _ _ (by omega)]
        exact hP.2.1 j hj
      · exact ⟨ob_um_n _ _ hne, pk_uLn hne, pk_un hne, ob_ub_n _ _ hne, pk_uLn hne, pk_un hne, pk_uLn hne⟩
      · rw [ob_um_s, pk_uLs, pk_us, ob_ub_s, pk_uLs, pk_us, pk_uLs]
        refine Or.inr ⟨by omega, hnv _ _ (fun h => absurd h (by decide)), ?_⟩
        cases hA : (sG || sS)
        · refine Or.inl ⟨rfl, ?_⟩
          unfold ob_kd
          cases (sV || sW) <;> rfl
        · rw [hA] at hDA
          have hD : (sV || sW) = false := by simpa using hDA
          have hW : sW = false := by
            cases sW
            · rfl
            · simp at hD
          refine Or.inr ⟨rfl, by rw [hD]; rfl, by rw [hW]; rfl, hnn _ _, hnw _ _ (fun h => absurd h (by decide))⟩
    · intro j hne
      exact ⟨ob_um_n _ _ hne, pk_uLn hne, pk_un hne, ob_ub_n _ _ hne⟩
    · intro h1 h2 h3
      subst h1 h2 h3
      rw [pk_us, pk_uLs, ob_ub_s]
      exact ⟨rfl, rfl, fun _ => rfl⟩
  · have hpk : ¬ xPk (32 * o + k) = 0 := fun z => hM ((ob_sl_0 (hP.2.2 (32 * o + k) (by omega))).mp z)
    have hMm := hP.1 (32 * o + k)
    have hsl : ob_V n (pVal (32 * o + k)) ∧ ((yPair (32 * o + k) = 0 ∧ xPk (32 * o + k) = 1) ∨ (yPair (32 * o + k) = 1 ∧ xPk (32 * o + k) = 2 ∧ tw (32 * o + k) = false ∧ xSet (32 * o + k) = ySet (32 * o + k) ∧ ob_V n (ySet (32 * o + k)))) := by
      rcases hP.2.2 (32 * o + k) (by omega) with ⟨h0, _⟩ | ⟨_, h1, h2⟩
      · exact absurd h0 hM
      · exact ⟨h1, h2⟩
    have hpr : yPair (32 * o + k) = 0 ∨ yPair (32 * o + k) = 1 := by
      rcases hsl.2 with h | h
      · exact Or.inl h.1
      · exact Or.inr h.1
    obtain ⟨cv, hcX, hcY⟩ : ∃ cv : Bool, cv = decide (ob_kd (sV || sW) (sG || sS) (xPk (32 * o + k)) ≠ xPk (32 * o + k)) ∧ cv = ((sG || sS) && decide (yPair (32 * o + k) = 0) || !(sG || sS) && (sV || sW) && decide (yPair (32 * o + k) = 1)) := by
      refine ⟨_, rfl, ?_⟩
      rcases hsl.2 with ⟨h1, h2⟩ | ⟨h1, h2, _⟩
      · rw [h1, h2]
        revert hDA
        cases (sV || sW) <;> cases (sG || sS) <;> decide
      · rw [h1, h2]
        revert hDA
        cases (sV || sW) <;> cases (sG || sS) <;> decide
    refine ⟨m, M, xPc, xKo, vp_updL pVal (32 * o + k) (ob_nv (sV || sG) cv v (pVal (32 * o + k))), upd xPk (32 * o + k) (ob_kd (sV || sW) (sG || sS) (xPk (32 * o + k))), ob_ub tw (32 * o + k) (if sW then oW else if cv then false else tw (32 * o + k)), ob_ub te (32 * o + k) (if sE then oE else te (32 * o + k)), ob_ub tc (32 * o + k) (if sC then oC else tc (32 * o + k)), vp_updL xSet (32 * o + k) (ob_nv sS cv w (xSet (32 * o + k))), upd yPair (32 * o + k) (if cv then ob_01 (sG || sS) else yPair (32 * o + k)), vp_updL ySet (32 * o + k) (ob_nv sS cv wy (ySet (32 * o + k))), ?_, hL, by omega, by omega, hM, ?_, ?_, ?_, fun post hp => ob_stX (by omega) hk hpk cv hcX post hp, fun post hp => ob_apY hpo hi (by omega) hM hpr cv hcY hDA post hp⟩
    · refine ob_gP_c (i := 32 * o + k) hP hP.1 hP.2.1 (fun j hj hne => ?_) (fun _ => ?_)
      · exact ⟨rfl, pk_uLn hne, pk_un hne, ob_ub_n _ _ hne, pk_uLn hne, pk_un hne, pk_uLn hne⟩
      · rw [pk_uLs, pk_us, ob_ub_s, pk_uLs, pk_us, pk_uLs]
        refine Or.inr ⟨hM, hnv _ _ (fun _ => hsl.1), ?_⟩
        rcases hsl.2 with ⟨h1, h2⟩ | ⟨h1, h2, h3, h4, h5⟩
        · cases hA : (sG || sS)
          · left
            rw [hA, h1] at hcY
            have hc : cv = false := by rw [hcY]; simp
            subst hc
            rw [h2]
            refine ⟨h1, ?_⟩
            unfold ob_kd
            cases (sV || sW) <;> rfl
          · right
            rw [hA, h1] at hcY
            have hc : cv = true := by rw [hcY]; simp
            subst hc
            rw [hA] at hDA
            have hD : (sV || sW) = false := by simpa using hDA
            have hW : sW = false := by
              cases sW
              · rfl
              · simp at hD
            exact ⟨rfl, by rw [hD]; rfl, by rw [hW]; rfl, hnn _ _, hnw _ _ (fun h => absurd h (by decide))⟩
        · cases hA : (sG || sS)
          · cases hD : (sV || sW)
            · right
              rw [hA, hD, h1] at hcY
              have hc : cv = false := by rw [hcY]; simp
              subst hc
              have hW : sW = false := by
                cases sW
                · rfl
                · simp at hD
              refine ⟨h1, by rw [h2]; rfl, by rw [hW]; exact h3, by rw [h4, hnn], hnw _ _ (fun _ => h5)⟩
            · left
              rw [hA, hD, h1] at hcY
              have hc : cv = true := by rw [hcY]; simp
              subst hc
              exact ⟨rfl, rfl⟩
          · right
            rw [hA, h1] at hcY
            have hc : cv = false := by rw [hcY]; simp
            subst hc
            rw [hA] at hDA
            have hD : (sV || sW) = false := by simpa using hDA
            have hW : sW = false := by
              cases sW
              · rfl
              · simp at hD
            exact ⟨h1, by rw [hD]; rfl, by rw [hW]; exact h3, by rw [h4, hnn], hnw _ _ (fun _ => h5)⟩
    · intro j hne
      exact ⟨rfl, pk_uLn hne, pk_un hne, ob_ub_n _ _ hne⟩
    · intro _ h1 h2
      rw [h2, h1] at hcY
      have hc : cv = false := by rw [hcY]; simp
      subst hc
      rw [pk_us, pk_uLs, ob_ub_s]
      exact ⟨h1, rfl, rfl⟩
    · intro h1 h2 h3
      subst h1 h2 h3
      rw [pk_us, pk_uLs]
      refine ⟨?_, rfl, fun z => absurd z hM⟩
      rcases hpr with h | h
      · rw [h] at hcY
        have hc : cv = false := by rw [hcY]; simp
        rw [hc]
        exact h
      · rw [h] at hcY
        have hc : cv = true := by rw [hcY]; simp
        rw [hc]
        rfl
end
