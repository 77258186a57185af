/-! ===== DEFINE: both sides ===== -/
section
variable {n : Nat} {d : Nat} {b : Nat} {m : Nat} {deep : Int32} {res : Int64} {thr : Int32} {thn : Int64} {CL : Nat → Nat} {cStr : Nat → Int32} {cOp : Nat → Int32} {cA : Nat → Int32} {cB : Nat → Int32} {OK : Nat → Nat} {oKin : Nat → Int32} {oOpen : Nat → Int32} {pVal : Nat → Int64} {aOut : Nat → Int32} {aVar : Nat → Int64} {FC : Nat → Nat} {FA : Nat → Nat} {FP : Nat → Nat} {FH : Nat → Nat} {FT : Nat → Nat} {fSelf : Nat → Int64} {stk : Nat → Int64} {TA : Nat → Nat} {TH : Nat → Nat} {xFc : Nat → Int32} {xFs : Nat → Int32} {xPc : Nat → Int32} {xKo : Nat → Int32} {xPk : Nat → Int32} {tw : Nat → Bool} {te : Nat → Bool} {tc : Nat → Bool} {xSet : Nat → Int64} {S : Nat → Nat} {XH : Nat → Nat} {xHeld : Nat → Int64} {xArg : Nat → Int64} {yCo : Nat → Int32} {yAr : Nat → Int32} {M : Nat → Nat} {yPair : Nat → Int32} {ySeen : Nat → Int32} {ySet : Nat → Int64} {yStay : Nat → Int32} {yArg : Nat → Int64} {yHan : Nat → Int32} {yKept : Nat → Int64} {yGiven : Int32}
variable {o k i l : Nat} {sV sG sS sW sE sC oW oE oC pW pE pC : Bool} {v w wy : Int64}
theorem ob_alwC {w' e' c' eqV eqS : Bool} (h : ob_alw sV sG sS sW sE sC oW oE oC w' e' c' false eqV eqS = true) (hc : c' = false) : (sG || sS) = false ∧ (sC && oC) = false := by
  subst hc
  unfold ob_alw at h
  cases hA : (sG || sS)
  · cases hC : (sC && oC)
    · exact ⟨rfl, rfl⟩
    · rw [hC] at h
      simp at h
  · rw [hA] at h
    simp at h
theorem ob_ifC (h : (sC && oC) = false) : (if sC = true then oC else false) = false := by
  cases sC
  · rfl
  · simpa using h
/-- LENGTH is not set: the property is stored, or not -/
theorem ob_settleN (hpo : ob_po sW sE sC oW oE oC pW pE pC) (hO : ob_gO n OK oKin) (hP : ob_gP n m M pVal xPk tw xSet yPair ySet) (hL : ob_gL n M xPc xKo) (hY : ob_gY n OK M tc pVal yPair) (ho : o < n) (hk : k < 32) (hm : m < 2 ^ 31) (hDA : ((sV || sW) && (sG || sS)) = false)
    (hv : (sV || sG) = true → ob_V n v) (hw : sS = true → ob_V n wy ∧ w = wy) (hns : ¬ (OK o = 1 ∧ k = 16 ∧ sV = true)) :
    ∃ (r : Int32) (m' : Nat) (M' : Nat → Nat) (xPc' : Nat → Int32) (xKo' : Nat → Int32) (pVal' : Nat → Int64) (xPk' : Nat → Int32) (tw' : Nat → Bool) (te' : Nat → Bool) (tc' : Nat → Bool) (xSet' : Nat → Int64) (yPair' : Nat → Int32) (ySet' : Nat → Int64), ob_gP n m' M' pVal' xPk' tw' xSet' yPair' ySet' ∧ ob_gL n M' xPc' xKo' ∧ ob_gY n OK M' tc' pVal' yPair' ∧ m' ≤ m + 1 ∧ (r = -2 ∨ r = 0 ∨ r = 1) ∧
      (∀ post : Int32 → SX → Prop, post r (nI n, nI d, nI b, deep, res, thr, thn, (fun zz => nI (CL zz)), cStr, cOp, cA, cB, (fun zz => nI (OK zz)), oKin, oOpen, xFc, xFs, xPc', xKo', xPk', (fun zz => ob_xa (tw' zz) (te' zz) (tc' zz)), pVal', xSet', (fun zz => nI (S zz)), aOut, aVar, (fun zz => nI (FC zz)), (fun zz => nI (FP zz)), (fun zz => nI (FA zz)), (fun zz => nI (FH zz)), (fun zz => nI (XH zz)), (fun zz => nI (FT zz)), fSelf, xHeld, stk, (fun zz => nI (TA zz)), (fun zz => nI (TH zz)), xArg) → wpX_defineProperty post (nI n, nI d, nI b, deep, res, thr, thn, (fun zz => nI (CL zz)), cStr, cOp, cA, cB, (fun zz => nI (OK zz)), oKin, oOpen, xFc, xFs, xPc, xKo, xPk, (fun zz => ob_xa (tw zz) (te zz) (tc zz)), pVal, xSet, (fun zz => nI (S zz)), aOut, aVar, (fun zz => nI (FC zz)), (fun zz => nI (FP zz)), (fun zz => nI (FA zz)), (fun zz => nI (FH zz)), (fun zz => nI (XH zz)), (fun zz => nI (FT zz)), fSelf, xHeld, stk, (fun zz => nI (TA zz)), (fun zz => nI (TH zz)), xArg) (nI o) (nI k) (ob_xs sV sG sS sW sE sC oW oE oC) v w) ∧
      (∀ post : Int32 → SY → Prop, post r (nI n, nI m', yGiven, nI d, deep, nI b, thr, thn, res, cStr, (fun zz => nI (CL zz)), cOp, cA, cB, (fun zz => nI (OK zz)), oKin, yCo, yAr, oOpen, (fun zz => nI (M' zz)), (fun zz => ob_yf (tw' zz) (te' zz) (tc' zz)), yPair', ySeen, pVal', ySet', (fun zz => ob_th (S zz)), yStay, aOut, aVar, yArg, (fun zz => nI (FC zz)), (fun zz => nI (FA zz)), (fun zz => nI (FP zz)), (fun zz => nI (FH zz)), yHan, (fun zz => nI (FT zz)), (fun zz => nI (TA zz)), (fun zz => nI (TH zz)), fSelf, yKept, stk) → wpY_settle post (nI n, nI m, yGiven, nI d, deep, nI b, thr, thn, res, cStr, (fun zz => nI (CL zz)), cOp, cA, cB, (fun zz => nI (OK zz)), oKin, yCo, yAr, oOpen, (fun zz => nI (M zz)), (fun zz => ob_yf (tw zz) (te zz) (tc zz)), yPair, ySeen, pVal, ySet, (fun zz => ob_th (S zz)), yStay, aOut, aVar, yArg, (fun zz => nI (FC zz)), (fun zz => nI (FA zz)), (fun zz => nI (FP zz)), (fun zz => nI (FH zz)), yHan, (fun zz => nI (FT zz)), (fun zz => nI (TA zz)), (fun zz => nI (TH zz)), fSelf, yKept, stk) (nI o) (nI k) (ob_ys sV sG sS sW sE sC) (ob_yf pW pE pC) v wy) := by
  have hn := hO.1.2
  have hOK := (hO.2 o ho).1
  obtain ⟨l, hl⟩ : ∃ l, OK o = 1 → (l ≤ 16 ∧ pVal (32 * o + 16) = lN l) := by
    by_cases hA : OK o = 1
    · obtain ⟨_, _, _, l, a4, a5, _⟩ := hY o ho hA
      exact ⟨l, fun _ => ⟨a4, a5⟩⟩
    · exact ⟨0, fun h => absurd h hA⟩
  obtain ⟨fb, hfb1, hfb2, hfX, hfY⟩ := ob_fb (n := n) (d := d) (b := b) (m := m) (deep := deep) (res := res) (thr := thr) (thn := thn) (CL := CL) (cStr := cStr) (cOp := cOp) (cA := cA) (cB := cB) (OK := OK) (oKin := oKin) (oOpen := oOpen) (pVal := pVal) (aOut := aOut) (aVar := aVar) (FC := FC) (FA := FA) (FP := FP) (FH := FH) (FT := FT) (fSelf := fSelf) (stk := stk) (TA := TA) (TH := TH) (xFc := xFc) (xFs := xFs) (xPc := xPc) (xKo := xKo) (xPk := xPk) (tw := tw) (te := te) (tc := tc) (xSet := xSet) (S := S) (XH := XH) (xHeld := xHeld) (xArg := xArg) (yCo := yCo) (yAr := yAr) (M := M) (yPair := yPair) (ySeen := ySeen) (ySet := ySet) (yStay := yStay) (yArg := yArg) (yHan := yHan) (yKept := yKept) (yGiven := yGiven) (sV := sV) (sG := sG) (sS := sS) (sW := sW) (sE := sE) (sC := sC) (oW := oW) (oE := oE) (oC := oC) (v := v) (w := w) (wy := wy) hpo hO hP ho hk hm (fun h => (hw h).2)
  by_cases hdone : (OK o = 1 ∧ k < 16 ∧ l ≤ k ∧ tw (32 * o + 16) = false) ∨ fb = true
  · refine ⟨0, m, M, xPc, xKo, pVal, xPk, tw, te, tc, xSet, yPair, ySet, hP, hL, hY, by omega, Or.inr (Or.inl rfl), fun post hp => ?_, fun post hp => ?_⟩
    · have h125 : ∀ x11 : Int32, fb = true → wX_defineProperty_125 post (nI o) (nI k) (ob_xs sV sG sS sW sE sC oW oE oC) v w 0 (nI (32 * o + 16)) x11 (nI n) (nI d) (nI b) deep res thr thn (fun zz => nI (CL zz)) cStr cOp cA cB (fun zz => nI (OK zz)) oKin oOpen xFc xFs xPc xKo xPk (fun zz => ob_xa (tw zz) (te zz) (tc zz)) pVal xSet (fun zz => nI (S zz)) aOut aVar (fun zz => nI (FC zz)) (fun zz => nI (FP zz)) (fun zz => nI (FA zz)) (fun zz => nI (FH zz)) (fun zz => nI (XH zz)) (fun zz => nI (FT zz)) fSelf xHeld stk (fun zz => nI (TA zz)) (fun zz => nI (TH zz)) xArg := by
        intro x11 hf
        unfold wX_defineProperty_125
        refine hfX _ ?_
        rw [hf]
        exact br_f (by decide) hp
      refine ob_dpXn (by omega) hk hOK hns hl post (fun _ _ _ _ => hp) (fun a1 a2 a3 a4 => ?_) (fun hg => ?_)
      · rcases hdone with h | h
        · rw [a4] at h; exact absurd h.2.2.2 (by decide)
        · exact h125 1 h
      · rcases hdone with h | h
        · exact absurd ⟨h.1, h.2.1, h.2.2.1⟩ hg
        · exact h125 0 h
    · refine ob_seYn (by omega) hk hOK hns hl post (fun _ _ _ _ => hp) (fun a1 a2 a3 a4 => ?_) (fun hg => ?_)
      · rcases hdone with h | h
        · rw [a4] at h; exact absurd h.2.2.2 (by decide)
        · exact hfY post _ _ (fun _ => hp) (fun h2 => absurd (h.symm.trans h2) (by decide))
      · rcases hdone with h | h
        · exact absurd ⟨h.1, h.2.1, h.2.2.1⟩ hg
        · exact hfY post _ _ (fun _ => hp) (fun h2 => absurd (h.symm.trans h2) (by decide))
  · have hfb : fb = false := by
      cases hh : fb
      · rfl
      · exact absurd (Or.inr hh) hdone
    obtain ⟨m', M', xPc', xKo', pVal', xPk', tw', te', tc', xSet', yPair', ySet', hP', hL', hm1, hm2, hMi, hoth, hF1, hF2, hX, hYY⟩ := ob_store (n := n) (d := d) (b := b) (m := m) (deep := deep) (res := res) (thr := thr) (thn := thn) (CL := CL) (cStr := cStr) (cOp := cOp) (cA := cA) (cB := cB) (OK := OK) (oKin := oKin) (oOpen := oOpen) (pVal := pVal) (aOut := aOut) (aVar := aVar) (FC := FC) (FA := FA) (FP := FP) (FH := FH) (FT := FT) (fSelf := fSelf) (stk := stk) (TA := TA) (TH := TH) (xFc := xFc) (xFs := xFs) (xPc := xPc) (xKo := xKo) (xPk := xPk) (tw := tw) (te := te) (tc := tc) (xSet := xSet) (S := S) (XH := XH) (xHeld := xHeld) (xArg := xArg) (yCo := yCo) (yAr := yAr) (M := M) (yPair := yPair) (ySeen := ySeen) (ySet := ySet) (yStay := yStay) (yArg := yArg) (yHan := yHan) (yKept := yKept) (yGiven := yGiven) (sV := sV) (sG := sG) (sS := sS) (sW := sW) (sE := sE) (sC := sC) (oW := oW) (oE := oE) (oC := oC) (v := v) (w := w) (wy := wy) hpo hO hP hL ho hk hm hDA hv hw
    by_cases hg : OK o = 1 ∧ k < 16 ∧ l ≤ k
    · have htw : tw (32 * o + 16) = true := by
        cases hh : tw (32 * o + 16)
        · exact absurd (Or.inl ⟨hg.1, hg.2.1, hg.2.2, hh⟩) hdone
        · rfl
      refine ⟨1, m', M', xPc', xKo', vp_updL pVal' (32 * o + 16) (lN (k + 1)), xPk', tw', te', tc', xSet', yPair', ySet', ?_, hL', ob_gY_gr hY hg.2.1 hg.2.2 (hl hg.1).2 hoth, hm2, Or.inr (Or.inr rfl), fun post hp => ?_, fun post hp => ?_⟩
      · refine ob_gP_c (i := 32 * o + 16) hP' hP'.1 hP'.2.1 (fun j hj hne => ⟨rfl, pk_uLn hne, rfl, rfl, rfl, rfl, rfl⟩) (fun hi => ?_)
        rw [pk_uLs]
        rcases hP'.2.2 (32 * o + 16) hi with h | ⟨h1, h2, h3⟩
        · exact Or.inl h
        · exact Or.inr ⟨h1, ob_lNV n (by omega), h3⟩
      · refine ob_dpXn (by omega) hk hOK hns hl post (fun _ _ _ a4 => absurd (a4.symm.trans htw) (by decide)) (fun _ _ _ _ => ?_) (fun h => absurd hg h)
        unfold wX_defineProperty_125
        refine hfX _ ?_
        rw [hfb]
        exact br_t rfl (br_t rfl (ob_dp189 (m' := m') (M' := M') hk (by omega) true rfl post hX hp))
      · refine ob_seYn (by omega) hk hOK hns hl post (fun _ _ _ a4 => absurd (a4.symm.trans htw) (by decide)) (fun _ _ _ _ => ?_) (fun h => absurd hg h)
        exact hfY post _ _ (fun h2 => absurd (hfb.symm.trans h2) (by decide)) (fun _ => ob_se201 hk (by omega) true rfl post hYY hp)
    · refine ⟨1, m', M', xPc', xKo', pVal', xPk', tw', te', tc', xSet', yPair', ySet', hP', hL', ?_, hm2, Or.inr (Or.inr rfl), fun post hp => ?_, fun post hp => ?_⟩
      · refine ob_gY_st hY hk hoth hMi (fun hA h16 => ?_) (fun hA h16 l2 hl2 hl3 => ?_)
        · subst h16
          obtain ⟨a1, a2, a3, l2, a4, a5, a6⟩ := hY o ho hA
          obtain ⟨eqS, halw⟩ := hfb1 hfb a1
          rw [a2, show decide ((0 : Int32) = 1) = false from rfl] at halw
          obtain ⟨c1, c2⟩ := ob_alwC halw a3
          obtain ⟨b1, b2, b3⟩ := hF1 a1 a2 c1
          have hsV : sV = false := by
            cases hh : sV
            · rfl
            · exact absurd ⟨hA, rfl, hh⟩ hns
          have hsG : sG = false := by
            cases hh : sG
            · rfl
            · rw [hh] at c1; simp at c1
          refine ⟨b1, by rw [b3, a3]; exact ob_ifC c2, l2, a4, ?_, a6⟩
          rw [b2, hsV, hsG]
          exact a5
        · have e : l2 = l := (pk_lEQ (by omega) (by have := (hl hA).1; omega)).mp (hl3.symm.trans (hl hA).2)
          subst e
          rcases Nat.lt_or_ge k l2 with h | h
          · exact h
          · exact absurd ⟨hA, h16, h⟩ hg
      · refine ob_dpXn (by omega) hk hOK hns hl post (fun a1 a2 a3 _ => absurd ⟨a1, a2, a3⟩ hg) (fun a1 a2 a3 _ => absurd ⟨a1, a2, a3⟩ hg) (fun _ => ?_)
        unfold wX_defineProperty_125
        refine hfX _ ?_
        rw [hfb]
        exact br_t rfl (br_t rfl (ob_dp189 (m' := m') (M' := M') hk (by omega) false rfl post hX hp))
      · refine ob_seYn (by omega) hk hOK hns hl post (fun a1 a2 a3 _ => absurd ⟨a1, a2, a3⟩ hg) (fun a1 a2 a3 _ => absurd ⟨a1, a2, a3⟩ hg) (fun _ => ?_)
        exact hfY post _ _ (fun h2 => absurd (hfb.symm.trans h2) (by decide)) (fun _ => ob_se201 hk (by omega) false rfl post hYY hp)
end
