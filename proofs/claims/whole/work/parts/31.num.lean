/-! ===== the instructions 25 to 28, 30, 31 ===== -/
section
variable {n : Nat} {d : Nat} {b : Nat} {m : Nat} {deep : Int32} {res : Int64} {thr : Int32} {thn : Int64} {CL : Nat → Nat} {cStr : Nat → Int32} {cOp : Nat → Int32} {cA : Nat → Int32} {cB : Nat → Int32} {OK : Nat → Nat} {oKin : Nat → Int32} {oOpen : Nat → Int32} {pVal : Nat → Int64} {aOut : Nat → Int32} {aVar : Nat → Int64} {FC : Nat → Nat} {FA : Nat → Nat} {FP : Nat → Nat} {FH : Nat → Nat} {FT : Nat → Nat} {fSelf : Nat → Int64} {stk : Nat → Int64} {TA : Nat → Nat} {TH : Nat → Nat} {xFc : Nat → Int32} {xFs : Nat → Int32} {xPc : Nat → Int32} {xKo : Nat → Int32} {xPk : Nat → Int32} {tw : Nat → Bool} {te : Nat → Bool} {tc : Nat → Bool} {xSet : Nat → Int64} {S : Nat → Nat} {XH : Nat → Nat} {xHeld : Nat → Int64} {xArg : Nat → Int64} {yCo : Nat → Int32} {yAr : Nat → Int32} {M : Nat → Nat} {yPair : Nat → Int32} {ySeen : Nat → Int32} {ySet : Nat → Int64} {yStay : Nat → Int32} {yArg : Nat → Int64} {yHan : Nat → Int32} {yKept : Nat → Int64} {yGiven : Int32}
variable {e k j p h B w : Nat} {a bb : Int32}
theorem ob_objA {v : Int64} (hn : n ≤ 32) (hv : ob_V n v) (post : Int32 → Prop) (h1 : v < 17179869184 → post (-1)) (h2 : ∀ o, o < n → v = lN (17179869184 + o) → post (nI o)) : wpX_objectOf post (nI n, nI d, nI b, deep, res, thr, thn, (fun zz => nI (CL zz)), cStr, cOp, cA, cB, (fun zz => nI (OK zz)), oKin, oOpen, xFc, xFs, xPc, xKo, xPk, (fun zz => ob_xa (tw zz) (te zz) (tc zz)), pVal, xSet, (fun zz => nI (S zz)), aOut, aVar, (fun zz => nI (FC zz)), (fun zz => nI (FP zz)), (fun zz => nI (FA zz)), (fun zz => nI (FH zz)), (fun zz => nI (XH zz)), (fun zz => nI (FT zz)), fSelf, xHeld, stk, (fun zz => nI (TA zz)), (fun zz => nI (TH zz)), xArg) v := by
  rcases ob_cls hv with hl | ⟨o, ho, rfl⟩
  · exact ob_objN hl _ (h1 hl)
  · exact ob_objO hn ho _ (h2 o ho rfl)
/-- 25, 26, 27 -/
theorem ob_opN {q : Int32} (R : ob_R n (e+1) b m res thr thn CL cOp cA cB OK oKin pVal aOut aVar FC FA FP FH FT fSelf stk TA TH xFc xFs xPc xKo xPk tw tc xSet S XH xHeld yCo yAr M yPair ySet yStay yHan yKept) (hm : m + 5 ≤ B) (hw : 4 * (e + 1) + ob_hs XH (e + 1) ≤ w) (hq : q = 25 ∨ q = 26 ∨ q = 27) :
    ∃ u' v', ob_S b B (w + 4) u' v' ∧ (∀ post : SX → Prop, post u' → wpX_numberOp post (nI n, nI (e+1), nI b, deep, res, thr, thn, (fun zz => nI (CL zz)), cStr, cOp, cA, cB, (fun zz => nI (OK zz)), oKin, oOpen, xFc, xFs, xPc, xKo, xPk, (fun zz => ob_xa (tw zz) (te zz) (tc zz)), pVal, xSet, (fun zz => nI (S zz)), aOut, aVar, (fun zz => nI (FC zz)), (fun zz => nI (FP zz)), (fun zz => nI (FA zz)), (fun zz => nI (FH zz)), (fun zz => nI (XH zz)), (fun zz => nI (FT zz)), fSelf, xHeld, stk, (fun zz => nI (TA zz)), (fun zz => nI (TH zz)), xArg) q) ∧ (∀ post : SY → Prop, post v' → wpY_two post (nI n, nI m, yGiven, nI (e+1), deep, nI b, thr, thn, res, cStr, (fun zz => nI (CL zz)), cOp, cA, cB, (fun zz => nI (OK zz)), oKin, yCo, yAr, oOpen, (fun zz => nI (M zz)), (fun zz => ob_yf (tw zz) (te zz) (tc zz)), yPair, ySeen, pVal, ySet, (fun zz => ob_th (S zz)), yStay, aOut, aVar, yArg, (fun zz => nI (FC zz)), (fun zz => nI (FA zz)), (fun zz => nI (FP zz)), (fun zz => nI (FH zz)), yHan, (fun zz => nI (FT zz)), (fun zz => nI (TA zz)), (fun zz => nI (TH zz)), fSelf, yKept, stk) q a) := by
  obtain ⟨y, FH', R1, hVy, hH, hX1, hY1⟩ := ob_pop (deep := deep) (cStr := cStr) (oOpen := oOpen) (te := te) (xArg := xArg) (ySeen := ySeen) (yArg := yArg) (yGiven := yGiven) R
  obtain ⟨x, FH2, R2, hVx, hH2, hX2, hY2⟩ := ob_pop (deep := deep) (cStr := cStr) (oOpen := oOpen) (te := te) (xArg := xArg) (ySeen := ySeen) (yArg := yArg) (yGiven := yGiven) R1
  have hq30 : ¬ 30 ≤ q := by rcases hq with rfl | rfl | rfl <;> decide
  have hq31 : ¬ q = 31 := by rcases hq with rfl | rfl | rfl <;> decide
  have hq28 : ¬ q = 28 := by rcases hq with rfl | rfl | rfl <;> decide
  have hq29 : ¬ q = 29 := by rcases hq with rfl | rfl | rfl <;> decide
  have hq30' : ¬ q = 30 := by rcases hq with rfl | rfl | rfl <;> decide
  have hY0 : ∀ post : SY → Prop, wpY_isNumber (fun r_49 => (((r_49 = 0 → (wY_two_172 post (nI n) (nI m) yGiven (nI (e+1)) deep (nI b) thr thn res cStr (fun zz => nI (CL zz)) cOp cA cB (fun zz => nI (OK zz)) oKin yCo yAr oOpen (fun zz => nI (M zz)) (fun zz => ob_yf (tw zz) (te zz) (tc zz)) yPair ySeen pVal ySet (fun zz => ob_th (S zz)) yStay aOut aVar yArg (fun zz => nI (FC zz)) (fun zz => nI (FA zz)) (fun zz => nI (FP zz)) (fun zz => nI (FH2 zz)) yHan (fun zz => nI (FT zz)) (fun zz => nI (TA zz)) (fun zz => nI (TH zz)) fSelf yKept stk)) ∧ (¬ r_49 = 0 → (wpY_isNumber (fun r_93 => (((r_93 = 0 → (wY_two_172 post (nI n) (nI m) yGiven (nI (e+1)) deep (nI b) thr thn res cStr (fun zz => nI (CL zz)) cOp cA cB (fun zz => nI (OK zz)) oKin yCo yAr oOpen (fun zz => nI (M zz)) (fun zz => ob_yf (tw zz) (te zz) (tc zz)) yPair ySeen pVal ySet (fun zz => ob_th (S zz)) yStay aOut aVar yArg (fun zz => nI (FC zz)) (fun zz => nI (FA zz)) (fun zz => nI (FP zz)) (fun zz => nI (FH2 zz)) yHan (fun zz => nI (FT zz)) (fun zz => nI (TA zz)) (fun zz => nI (TH zz)) fSelf yKept stk)) ∧ (¬ r_93 = 0 → (((q = 27 → (((y ≤ x → (wY_two_201 post 0 (nI n) (nI m) yGiven (nI (e+1)) deep (nI b) thr thn res cStr (fun zz => nI (CL zz)) cOp cA cB (fun zz => nI (OK zz)) oKin yCo yAr oOpen (fun zz => nI (M zz)) (fun zz => ob_yf (tw zz) (te zz) (tc zz)) yPair ySeen pVal ySet (fun zz => ob_th (S zz)) yStay aOut aVar yArg (fun zz => nI (FC zz)) (fun zz => nI (FA zz)) (fun zz => nI (FP zz)) (fun zz => nI (FH2 zz)) yHan (fun zz => nI (FT zz)) (fun zz => nI (TA zz)) (fun zz => nI (TH zz)) fSelf yKept stk)) ∧ (¬ y ≤ x → (wY_two_201 post 1 (nI n) (nI m) yGiven (nI (e+1)) deep (nI b) thr thn res cStr (fun zz => nI (CL zz)) cOp cA cB (fun zz => nI (OK zz)) oKin yCo yAr oOpen (fun zz => nI (M zz)) (fun zz => ob_yf (tw zz) (te zz) (tc zz)) yPair ySeen pVal ySet (fun zz => ob_th (S zz)) yStay aOut aVar yArg (fun zz => nI (FC zz)) (fun zz => nI (FA zz)) (fun zz => nI (FP zz)) (fun zz => nI (FH2 zz)) yHan (fun zz => nI (FT zz)) (fun zz => nI (TA zz)) (fun zz => nI (TH zz)) fSelf yKept stk))))) ∧ (¬ q = 27 → (((q = 25 → (wY_two_224 post (x + y) (nI n) (nI m) yGiven (nI (e+1)) deep (nI b) thr thn res cStr (fun zz => nI (CL zz)) cOp cA cB (fun zz => nI (OK zz)) oKin yCo yAr oOpen (fun zz => nI (M zz)) (fun zz => ob_yf (tw zz) (te zz) (tc zz)) yPair ySeen pVal ySet (fun zz => ob_th (S zz)) yStay aOut aVar yArg (fun zz => nI (FC zz)) (fun zz => nI (FA zz)) (fun zz => nI (FP zz)) (fun zz => nI (FH2 zz)) yHan (fun zz => nI (FT zz)) (fun zz => nI (TA zz)) (fun zz => nI (TH zz)) fSelf yKept stk)) ∧ (¬ q = 25 → (wY_two_224 post (x - y) (nI n) (nI m) yGiven (nI (e+1)) deep (nI b) thr thn res cStr (fun zz => nI (CL zz)) cOp cA cB (fun zz => nI (OK zz)) oKin yCo yAr oOpen (fun zz => nI (M zz)) (fun zz => ob_yf (tw zz) (te zz) (tc zz)) yPair ySeen pVal ySet (fun zz => ob_th (S zz)) yStay aOut aVar yArg (fun zz => nI (FC zz)) (fun zz => nI (FA zz)) (fun zz => nI (FP zz)) (fun zz => nI (FH2 zz)) yHan (fun zz => nI (FT zz)) (fun zz => nI (TA zz)) (fun zz => nI (TH zz)) fSelf yKept stk))))))))))) y))))) x → wpY_two post (nI n, nI m, yGiven, nI (e+1), deep, nI b, thr, thn, res, cStr, (fun zz => nI (CL zz)), cOp, cA, cB, (fun zz => nI (OK zz)), oKin, yCo, yAr, oOpen, (fun zz => nI (M zz)), (fun zz => ob_yf (tw zz) (te zz) (tc zz)), yPair, ySeen, pVal, ySet, (fun zz => ob_th (S zz)), yStay, aOut, aVar, yArg, (fun zz => nI (FC zz)), (fun zz => nI (FA zz)), (fun zz => nI (FP zz)), (fun zz => nI (FH zz)), yHan, (fun zz => nI (FT zz)), (fun zz => nI (TA zz)), (fun zz => nI (TH zz)), fSelf, yKept, stk) q a := by
    intro post h
    unfold wpY_two
    refine hY1 _ (br_f hq30 (hY2 _ ?_))
    unfold wY_two_19 wY_two_44
    exact br_f hq31 (br_f hq28 (br_f hq29 (br_f hq30' (br_f hq31 h))))
  by_cases hx : x = x.toInt32.toInt64
  · by_cases hy : y = y.toInt32.toInt64
    · obtain ⟨v, hv, hXv, hYv⟩ : ∃ v : Int64, ob_V n v ∧
          (∀ post : SX → Prop, wpX_push post (nI n, nI (e+1), nI b, deep, res, thr, thn, (fun zz => nI (CL zz)), cStr, cOp, cA, cB, (fun zz => nI (OK zz)), oKin, oOpen, xFc, xFs, xPc, xKo, xPk, (fun zz => ob_xa (tw zz) (te zz) (tc zz)), pVal, xSet, (fun zz => nI (S zz)), aOut, aVar, (fun zz => nI (FC zz)), (fun zz => nI (FP zz)), (fun zz => nI (FA zz)), (fun zz => nI (FH2 zz)), (fun zz => nI (XH zz)), (fun zz => nI (FT zz)), fSelf, xHeld, stk, (fun zz => nI (TA zz)), (fun zz => nI (TH zz)), xArg) v → wpX_numberOp post (nI n, nI (e+1), nI b, deep, res, thr, thn, (fun zz => nI (CL zz)), cStr, cOp, cA, cB, (fun zz => nI (OK zz)), oKin, oOpen, xFc, xFs, xPc, xKo, xPk, (fun zz => ob_xa (tw zz) (te zz) (tc zz)), pVal, xSet, (fun zz => nI (S zz)), aOut, aVar, (fun zz => nI (FC zz)), (fun zz => nI (FP zz)), (fun zz => nI (FA zz)), (fun zz => nI (FH zz)), (fun zz => nI (XH zz)), (fun zz => nI (FT zz)), fSelf, xHeld, stk, (fun zz => nI (TA zz)), (fun zz => nI (TH zz)), xArg) q) ∧ (∀ post : SY → Prop, wpY_give post (nI n, nI m, yGiven, nI (e+1), deep, nI b, thr, thn, res, cStr, (fun zz => nI (CL zz)), cOp, cA, cB, (fun zz => nI (OK zz)), oKin, yCo, yAr, oOpen, (fun zz => nI (M zz)), (fun zz => ob_yf (tw zz) (te zz) (tc zz)), yPair, ySeen, pVal, ySet, (fun zz => ob_th (S zz)), yStay, aOut, aVar, yArg, (fun zz => nI (FC zz)), (fun zz => nI (FA zz)), (fun zz => nI (FP zz)), (fun zz => nI (FH2 zz)), yHan, (fun zz => nI (FT zz)), (fun zz => nI (TA zz)), (fun zz => nI (TH zz)), fSelf, yKept, stk) v → wpY_two post (nI n, nI m, yGiven, nI (e+1), deep, nI b, thr, thn, res, cStr, (fun zz => nI (CL zz)), cOp, cA, cB, (fun zz => nI (OK zz)), oKin, yCo, yAr, oOpen, (fun zz => nI (M zz)), (fun zz => ob_yf (tw zz) (te zz) (tc zz)), yPair, ySeen, pVal, ySet, (fun zz => ob_th (S zz)), yStay, aOut, aVar, yArg, (fun zz => nI (FC zz)), (fun zz => nI (FA zz)), (fun zz => nI (FP zz)), (fun zz => nI (FH zz)), yHan, (fun zz => nI (FT zz)), (fun zz => nI (TA zz)), (fun zz => nI (TH zz)), fSelf, yKept, stk) q a) := by
        rcases hq with rfl | rfl | rfl
        · refine ⟨(x + y).toInt32.toInt64, ob_V_i n _, fun post h => ?_, fun post h => hY0 post ?_⟩
          · unfold wpX_numberOp
            refine hX1 _ (hX2 _ ?_)
            unfold wpX_isNumber
            exact br_t hx (br_f (by decide) (br_t hy (br_f (by decide) (br_t rfl h))))
          · unfold wpY_isNumber
            exact br_t hx (br_f (by decide) (br_t hy (br_f (by decide) (br_f (by decide) (br_t rfl h)))))
        · refine ⟨(x - y).toInt32.toInt64, ob_V_i n _, fun post h => ?_, fun post h => hY0 post ?_⟩
          · unfold wpX_numberOp
            refine hX1 _ (hX2 _ ?_)
            unfold wpX_isNumber
            exact br_t hx (br_f (by decide) (br_t hy (br_f (by decide) (br_f (by decide) (br_t rfl h)))))
          · unfold wpY_isNumber
            exact br_t hx (br_f (by decide) (br_t hy (br_f (by decide) (br_f (by decide) (br_f (by decide) h)))))
        · by_cases hle : y ≤ x
          · refine ⟨8589934594, ob_V_F n, fun post h => ?_, fun post h => hY0 post ?_⟩
            · unfold wpX_numberOp
              refine hX1 _ (hX2 _ ?_)
              unfold wpX_isNumber wX_numberOp_87
              exact br_t hx (br_f (by decide) (br_t hy (br_f (by decide) (br_f (by decide) (br_f (by decide) (br_t hle (ob_whX (Or.inl rfl) _ h)))))))
            · unfold wpY_isNumber wY_two_201
              exact br_t hx (br_f (by decide) (br_t hy (br_f (by decide) (br_t rfl (br_t hle (ob_whY (Or.inl rfl) _ h))))))
          · refine ⟨8589934595, ob_V_T n, fun post h => ?_, fun post h => hY0 post ?_⟩
            · unfold wpX_numberOp
              refine hX1 _ (hX2 _ ?_)
              unfold wpX_isNumber wX_numberOp_87
              exact br_t hx (br_f (by decide) (br_t hy (br_f (by decide) (br_f (by decide) (br_f (by decide) (br_f hle (ob_whX (Or.inr rfl) _ h)))))))
            · unfold wpY_isNumber wY_two_201
              exact br_t hx (br_f (by decide) (br_t hy (br_f (by decide) (br_t rfl (br_f hle (ob_whY (Or.inr rfl) _ h))))))
      obtain ⟨res', thr', thn', FH3, stk', R3, hXp, hYp⟩ := ob_push (deep := deep) (cStr := cStr) (oOpen := oOpen) (te := te) (xArg := xArg) (ySeen := ySeen) (yArg := yArg) (yGiven := yGiven) R2 hv
      exact ⟨_, _, ob_S_mk (deep := deep) (cStr := cStr) (oOpen := oOpen) (te := te) (xArg := xArg) (ySeen := ySeen) (yArg := yArg) (yGiven := yGiven) R3 (by omega : m ≤ B) (by omega), fun post hp => hXv post (hXp _ hp), fun post hp => hYv post (hYp _ hp)⟩
    · refine ⟨_, _, ob_S_mk (deep := deep) (cStr := cStr) (oOpen := oOpen) (te := te) (xArg := xArg) (ySeen := ySeen) (yArg := yArg) (yGiven := yGiven) (ob_raise R2 (ob_V_Ty n)) (by omega : m ≤ B) (by omega), fun post hp => ?_, fun post hp => hY0 post ?_⟩
      · unfold wpX_numberOp
        refine hX1 _ (hX2 _ ?_)
        unfold wpX_isNumber wX_numberOp_26
        exact br_t hx (br_f (by decide) (br_f hy (br_t rfl hp)))
      · unfold wpY_isNumber wY_two_172
        exact br_t hx (br_f (by decide) (br_f hy (br_t rfl hp)))
  · refine ⟨_, _, ob_S_mk (deep := deep) (cStr := cStr) (oOpen := oOpen) (te := te) (xArg := xArg) (ySeen := ySeen) (yArg := yArg) (yGiven := yGiven) (ob_raise R2 (ob_V_Ty n)) (by omega : m ≤ B) (by omega), fun post hp => ?_, fun post hp => hY0 post ?_⟩
    · unfold wpX_numberOp
      refine hX1 _ (hX2 _ ?_)
      unfold wpX_isNumber wX_numberOp_26
      exact br_f hx (br_t rfl hp)
    · unfold wpY_isNumber wY_two_172
      exact br_f hx (br_t rfl hp)
theorem ob_op28 (R : ob_R n (e+1) b m res thr thn CL cOp cA cB OK oKin pVal aOut aVar FC FA FP FH FT fSelf stk TA TH xFc xFs xPc xKo xPk tw tc xSet S XH xHeld yCo yAr M yPair ySet yStay yHan yKept) (hm : m + 5 ≤ B) (hw : 4 * (e + 1) + ob_hs XH (e + 1) ≤ w) :
    ∃ u' v', ob_S b B (w + 4) u' v' ∧ (∀ post : SX → Prop, post u' → wpX_valueOp post (nI n, nI (e+1), nI b, deep, res, thr, thn, (fun zz => nI (CL zz)), cStr, cOp, cA, cB, (fun zz => nI (OK zz)), oKin, oOpen, xFc, xFs, xPc, xKo, xPk, (fun zz => ob_xa (tw zz) (te zz) (tc zz)), pVal, xSet, (fun zz => nI (S zz)), aOut, aVar, (fun zz => nI (FC zz)), (fun zz => nI (FP zz)), (fun zz => nI (FA zz)), (fun zz => nI (FH zz)), (fun zz => nI (XH zz)), (fun zz => nI (FT zz)), fSelf, xHeld, stk, (fun zz => nI (TA zz)), (fun zz => nI (TH zz)), xArg) 28 a) ∧ (∀ post : SY → Prop, post v' → wpY_two post (nI n, nI m, yGiven, nI (e+1), deep, nI b, thr, thn, res, cStr, (fun zz => nI (CL zz)), cOp, cA, cB, (fun zz => nI (OK zz)), oKin, yCo, yAr, oOpen, (fun zz => nI (M zz)), (fun zz => ob_yf (tw zz) (te zz) (tc zz)), yPair, ySeen, pVal, ySet, (fun zz => ob_th (S zz)), yStay, aOut, aVar, yArg, (fun zz => nI (FC zz)), (fun zz => nI (FA zz)), (fun zz => nI (FP zz)), (fun zz => nI (FH zz)), yHan, (fun zz => nI (FT zz)), (fun zz => nI (TA zz)), (fun zz => nI (TH zz)), fSelf, yKept, stk) 28 a) := by
  obtain ⟨y, FH', R1, hVy, hH, hX1, hY1⟩ := ob_pop (deep := deep) (cStr := cStr) (oOpen := oOpen) (te := te) (xArg := xArg) (ySeen := ySeen) (yArg := yArg) (yGiven := yGiven) R
  obtain ⟨x, FH2, R2, hVx, hH2, hX2, hY2⟩ := ob_pop (deep := deep) (cStr := cStr) (oOpen := oOpen) (te := te) (xArg := xArg) (ySeen := ySeen) (yArg := yArg) (yGiven := yGiven) R1
  have hn := R1.2.1.1.2
  obtain ⟨z, hz, hz2⟩ : ∃ z : Int32, (z = 0 ∨ z = 1) ∧ ((y = x ∧ z = 1) ∨ (¬ y = x ∧ z = 0)) := by
    by_cases h0 : y = x
    · exact ⟨1, Or.inr rfl, Or.inl ⟨h0, rfl⟩⟩
    · exact ⟨0, Or.inl rfl, Or.inr ⟨h0, rfl⟩⟩
  obtain ⟨res', thr', thn', FH3, stk', R3, hXp, hYp⟩ := ob_push (deep := deep) (cStr := cStr) (oOpen := oOpen) (te := te) (xArg := xArg) (ySeen := ySeen) (yArg := yArg) (yGiven := yGiven) R2 (ob_V_w n z)
  refine ⟨_, _, ob_S_mk (deep := deep) (cStr := cStr) (oOpen := oOpen) (te := te) (xArg := xArg) (ySeen := ySeen) (yArg := yArg) (yGiven := yGiven) R3 (by omega : m ≤ B) (by omega), fun post hp => ?_, fun post hp => ?_⟩
  · unfold wpX_valueOp
    refine hX1 _ ?_
    refine ob_objA hn hVy _ (fun _ => ?_) (fun _ _ _ => ?_)
    all_goals
      refine br_f (by decide) (br_f (by decide) (br_t rfl ?_))
      refine hX2 _ ?_
      unfold wX_valueOp_59
      rcases hz2 with ⟨h0, rfl⟩ | ⟨h0, rfl⟩
      · exact br_t h0 (ob_whX (Or.inr rfl) _ (hXp _ hp))
      · exact br_f h0 (ob_whX (Or.inl rfl) _ (hXp _ hp))
  · unfold wpY_two
    refine hY1 _ (br_f (by decide) (hY2 _ ?_))
    unfold wY_two_19 wY_two_44 wY_two_63
    refine br_f (by decide) (br_t rfl ?_)
    rcases hz2 with ⟨h0, rfl⟩ | ⟨h0, rfl⟩
    · exact br_t h0.symm (ob_whY (Or.inr rfl) _ (hYp _ hp))
    · exact br_f (fun z => h0 z.symm) (ob_whY (Or.inl rfl) _ (hYp _ hp))
theorem ob_op30 (R : ob_R n (e+1) b m res thr thn CL cOp cA cB OK oKin pVal aOut aVar FC FA FP FH FT fSelf stk TA TH xFc xFs xPc xKo xPk tw tc xSet S XH xHeld yCo yAr M yPair ySet yStay yHan yKept) (hm : m + 5 ≤ B) (hw : 4 * (e + 1) + ob_hs XH (e + 1) ≤ w) :
    ∃ u' v', ob_S b B (w + 4) u' v' ∧ (∀ post : SX → Prop, post u' → wpX_valueOp post (nI n, nI (e+1), nI b, deep, res, thr, thn, (fun zz => nI (CL zz)), cStr, cOp, cA, cB, (fun zz => nI (OK zz)), oKin, oOpen, xFc, xFs, xPc, xKo, xPk, (fun zz => ob_xa (tw zz) (te zz) (tc zz)), pVal, xSet, (fun zz => nI (S zz)), aOut, aVar, (fun zz => nI (FC zz)), (fun zz => nI (FP zz)), (fun zz => nI (FA zz)), (fun zz => nI (FH zz)), (fun zz => nI (XH zz)), (fun zz => nI (FT zz)), fSelf, xHeld, stk, (fun zz => nI (TA zz)), (fun zz => nI (TH zz)), xArg) 30 a) ∧ (∀ post : SY → Prop, post v' → wpY_two post (nI n, nI m, yGiven, nI (e+1), deep, nI b, thr, thn, res, cStr, (fun zz => nI (CL zz)), cOp, cA, cB, (fun zz => nI (OK zz)), oKin, yCo, yAr, oOpen, (fun zz => nI (M zz)), (fun zz => ob_yf (tw zz) (te zz) (tc zz)), yPair, ySeen, pVal, ySet, (fun zz => ob_th (S zz)), yStay, aOut, aVar, yArg, (fun zz => nI (FC zz)), (fun zz => nI (FA zz)), (fun zz => nI (FP zz)), (fun zz => nI (FH zz)), yHan, (fun zz => nI (FT zz)), (fun zz => nI (TA zz)), (fun zz => nI (TH zz)), fSelf, yKept, stk) 30 a) := by
  obtain ⟨y, FH', R1, hVy, hH, hX1, hY1⟩ := ob_pop (deep := deep) (cStr := cStr) (oOpen := oOpen) (te := te) (xArg := xArg) (ySeen := ySeen) (yArg := yArg) (yGiven := yGiven) R
  have hn := R1.2.1.1.2
  have hX0 : ∀ post : SX → Prop, wpX_pushKindOf post (nI n, nI (e+1), nI b, deep, res, thr, thn, (fun zz => nI (CL zz)), cStr, cOp, cA, cB, (fun zz => nI (OK zz)), oKin, oOpen, xFc, xFs, xPc, xKo, xPk, (fun zz => ob_xa (tw zz) (te zz) (tc zz)), pVal, xSet, (fun zz => nI (S zz)), aOut, aVar, (fun zz => nI (FC zz)), (fun zz => nI (FP zz)), (fun zz => nI (FA zz)), (fun zz => nI (FH' zz)), (fun zz => nI (XH zz)), (fun zz => nI (FT zz)), fSelf, xHeld, stk, (fun zz => nI (TA zz)), (fun zz => nI (TH zz)), xArg) y → wpX_valueOp post (nI n, nI (e+1), nI b, deep, res, thr, thn, (fun zz => nI (CL zz)), cStr, cOp, cA, cB, (fun zz => nI (OK zz)), oKin, oOpen, xFc, xFs, xPc, xKo, xPk, (fun zz => ob_xa (tw zz) (te zz) (tc zz)), pVal, xSet, (fun zz => nI (S zz)), aOut, aVar, (fun zz => nI (FC zz)), (fun zz => nI (FP zz)), (fun zz => nI (FA zz)), (fun zz => nI (FH zz)), (fun zz => nI (XH zz)), (fun zz => nI (FT zz)), fSelf, xHeld, stk, (fun zz => nI (TA zz)), (fun zz => nI (TH zz)), xArg) 30 a := by
    intro post h
    unfold wpX_valueOp
    refine hX1 _ ?_
    refine ob_objA hn hVy _ (fun _ => ?_) (fun _ _ _ => ?_)
    all_goals
      refine br_f (by decide) (br_f (by decide) (br_f (by decide) (br_f (by decide) (br_t rfl ?_))))
      exact h
  have hY0 : ∀ post : SY → Prop, wpY_isNumber (fun r_183 => (((r_183 = 0 → (wpY_isObject (fun r_185 => (((r_185 = 0 → (wY_two_137 post ((4 + y) - 8589934592) (nI n) (nI m) yGiven (nI (e+1)) deep (nI b) thr thn res cStr (fun zz => nI (CL zz)) cOp cA cB (fun zz => nI (OK zz)) oKin yCo yAr oOpen (fun zz => nI (M zz)) (fun zz => ob_yf (tw zz) (te zz) (tc zz)) yPair ySeen pVal ySet (fun zz => ob_th (S zz)) yStay aOut aVar yArg (fun zz => nI (FC zz)) (fun zz => nI (FA zz)) (fun zz => nI (FP zz)) (fun zz => nI (FH' zz)) yHan (fun zz => nI (FT zz)) (fun zz => nI (TA zz)) (fun zz => nI (TH zz)) fSelf yKept stk)) ∧ (¬ r_185 = 0 → (wpY_number (fun r_229 => (vp_in r_229 32 ∧ (wY_two_137 post ((nI (OK r_229.toNatClampNeg)).toInt64) (nI n) (nI m) yGiven (nI (e+1)) deep (nI b) thr thn res cStr (fun zz => nI (CL zz)) cOp cA cB (fun zz => nI (OK zz)) oKin yCo yAr oOpen (fun zz => nI (M zz)) (fun zz => ob_yf (tw zz) (te zz) (tc zz)) yPair ySeen pVal ySet (fun zz => ob_th (S zz)) yStay aOut aVar yArg (fun zz => nI (FC zz)) (fun zz => nI (FA zz)) (fun zz => nI (FP zz)) (fun zz => nI (FH' zz)) yHan (fun zz => nI (FT zz)) (fun zz => nI (TA zz)) (fun zz => nI (TH zz)) fSelf yKept stk))) y))))) y)) ∧ (¬ r_183 = 0 → (wY_two_137 post 3 (nI n) (nI m) yGiven (nI (e+1)) deep (nI b) thr thn res cStr (fun zz => nI (CL zz)) cOp cA cB (fun zz => nI (OK zz)) oKin yCo yAr oOpen (fun zz => nI (M zz)) (fun zz => ob_yf (tw zz) (te zz) (tc zz)) yPair ySeen pVal ySet (fun zz => ob_th (S zz)) yStay aOut aVar yArg (fun zz => nI (FC zz)) (fun zz => nI (FA zz)) (fun zz => nI (FP zz)) (fun zz => nI (FH' zz)) yHan (fun zz => nI (FT zz)) (fun zz => nI (TA zz)) (fun zz => nI (TH zz)) fSelf yKept stk))))) y → wpY_two post (nI n, nI m, yGiven, nI (e+1), deep, nI b, thr, thn, res, cStr, (fun zz => nI (CL zz)), cOp, cA, cB, (fun zz => nI (OK zz)), oKin, yCo, yAr, oOpen, (fun zz => nI (M zz)), (fun zz => ob_yf (tw zz) (te zz) (tc zz)), yPair, ySeen, pVal, ySet, (fun zz => ob_th (S zz)), yStay, aOut, aVar, yArg, (fun zz => nI (FC zz)), (fun zz => nI (FA zz)), (fun zz => nI (FP zz)), (fun zz => nI (FH zz)), yHan, (fun zz => nI (FT zz)), (fun zz => nI (TA zz)), (fun zz => nI (TH zz)), fSelf, yKept, stk) 30 a := by
    intro post h
    unfold wpY_two
    refine hY1 _ (br_t (by decide) ?_)
    unfold wY_two_19 wY_two_44
    exact br_f (by decide) (br_f (by decide) (br_f (by decide) (br_t rfl h)))
  obtain ⟨v, hv, hXv, hYv⟩ : ∃ v : Int64, ob_V n v ∧
      (∀ post : SX → Prop, wpX_push post (nI n, nI (e+1), nI b, deep, res, thr, thn, (fun zz => nI (CL zz)), cStr, cOp, cA, cB, (fun zz => nI (OK zz)), oKin, oOpen, xFc, xFs, xPc, xKo, xPk, (fun zz => ob_xa (tw zz) (te zz) (tc zz)), pVal, xSet, (fun zz => nI (S zz)), aOut, aVar, (fun zz => nI (FC zz)), (fun zz => nI (FP zz)), (fun zz => nI (FA zz)), (fun zz => nI (FH' zz)), (fun zz => nI (XH zz)), (fun zz => nI (FT zz)), fSelf, xHeld, stk, (fun zz => nI (TA zz)), (fun zz => nI (TH zz)), xArg) v → wpX_valueOp post (nI n, nI (e+1), nI b, deep, res, thr, thn, (fun zz => nI (CL zz)), cStr, cOp, cA, cB, (fun zz => nI (OK zz)), oKin, oOpen, xFc, xFs, xPc, xKo, xPk, (fun zz => ob_xa (tw zz) (te zz) (tc zz)), pVal, xSet, (fun zz => nI (S zz)), aOut, aVar, (fun zz => nI (FC zz)), (fun zz => nI (FP zz)), (fun zz => nI (FA zz)), (fun zz => nI (FH zz)), (fun zz => nI (XH zz)), (fun zz => nI (FT zz)), fSelf, xHeld, stk, (fun zz => nI (TA zz)), (fun zz => nI (TH zz)), xArg) 30 a) ∧ (∀ post : SY → Prop, wpY_give post (nI n, nI m, yGiven, nI (e+1), deep, nI b, thr, thn, res, cStr, (fun zz => nI (CL zz)), cOp, cA, cB, (fun zz => nI (OK zz)), oKin, yCo, yAr, oOpen, (fun zz => nI (M zz)), (fun zz => ob_yf (tw zz) (te zz) (tc zz)), yPair, ySeen, pVal, ySet, (fun zz => ob_th (S zz)), yStay, aOut, aVar, yArg, (fun zz => nI (FC zz)), (fun zz => nI (FA zz)), (fun zz => nI (FP zz)), (fun zz => nI (FH' zz)), yHan, (fun zz => nI (FT zz)), (fun zz => nI (TA zz)), (fun zz => nI (TH zz)), fSelf, yKept, stk) v → wpY_two post (nI n, nI m, yGiven, nI (e+1), deep, nI b, thr, thn, res, cStr, (fun zz => nI (CL zz)), cOp, cA, cB, (fun zz => nI (OK zz)), oKin, yCo, yAr, oOpen, (fun zz => nI (M zz)), (fun zz => ob_yf (tw zz) (te zz) (tc zz)), yPair, ySeen, pVal, ySet, (fun zz => ob_th (S zz)), yStay, aOut, aVar, yArg, (fun zz => nI (FC zz)), (fun zz => nI (FA zz)), (fun zz => nI (FP zz)), (fun zz => nI (FH zz)), yHan, (fun zz => nI (FT zz)), (fun zz => nI (TA zz)), (fun zz => nI (TH zz)), fSelf, yKept, stk) 30 a) := by
    by_cases hnum : y = y.toInt32.toInt64
    · have hlt : y < 17179869184 := by
        rw [ob_Tlt, ob_TO]
        have := (ob_num_b hnum).2
        omega
      refine ⟨3, ob_V_i n 3, fun post h => hX0 post ?_, fun post h => hY0 post ?_⟩
      · unfold wpX_pushKindOf
        refine ob_objN hlt _ (br_t (by decide) ?_)
        unfold wpX_isNumber
        exact br_t hnum (br_f (by decide) h)
      · unfold wpY_isNumber wY_two_137
        exact br_t hnum (br_f (by decide) h)
    · rcases ob_cls hVy with hl | ⟨o, ho, rfl⟩
      · have hs : ∃ q, q ≤ 5 ∧ y = lN (8589934592 + q) := by
          rcases hVy with h | h | ⟨o, ho, h⟩
          · exact absurd h hnum
          · exact h
          · rw [h] at hl
            exact absurd hl (ob_obj_nlt o (by omega))
        obtain ⟨q, hq, rfl⟩ := hs
        have e4 : 4 + lN (8589934592 + q) - 8589934592 = lN (4 + q) := by
          show lN 4 + lN (8589934592 + q) - lN 8589934592 = _
          rw [lN_add, lN_sub (by omega), show 4 + (8589934592 + q) - 8589934592 = 4 + q from by omega]
        refine ⟨lN (4 + q), ob_lNV n (by omega), fun post h => hX0 post ?_, fun post h => hY0 post ?_⟩
        · unfold wpX_pushKindOf
          refine ob_objN hl _ (br_t (by decide) ?_)
          unfold wpX_isNumber
          refine br_f hnum (br_t rfl ?_)
          rw [e4]
          exact h
        · unfold wpY_isNumber wY_two_137
          refine br_f hnum (br_t rfl (ob_isoF hl _ (br_t rfl ?_)))
          rw [e4]
          exact h
      · have hin : vp_in (nI o) 32 := vp_in_nI (by omega) (by decide)
        have hcl : (nI o).toNatClampNeg = o := ob_cl (by omega)
        refine ⟨(nI (OK o)).toInt64, ob_V_i n _, fun post h => hX0 post ?_, fun post h => hY0 post ?_⟩
        · unfold wpX_pushKindOf
          refine ob_objO hn ho _ (br_f (nI_pos (by omega)) ⟨hin, ?_⟩)
          rw [hcl]
          exact h
        · unfold wpY_isNumber wY_two_137
          refine br_f hnum (br_t rfl (ob_isoT o (by omega) _ (br_f (by decide) ?_)))
          unfold wpY_number
          rw [ob_numb]
          refine ⟨hin, ?_⟩
          rw [hcl]
          exact h
  obtain ⟨res', thr', thn', FH3, stk', R3, hXp, hYp⟩ := ob_push (deep := deep) (cStr := cStr) (oOpen := oOpen) (te := te) (xArg := xArg) (ySeen := ySeen) (yArg := yArg) (yGiven := yGiven) R1 hv
  exact ⟨_, _, ob_S_mk (deep := deep) (cStr := cStr) (oOpen := oOpen) (te := te) (xArg := xArg) (ySeen := ySeen) (yArg := yArg) (yGiven := yGiven) R3 (by omega : m ≤ B) (by omega), fun post hp => hXv post (hXp _ hp), fun post hp => hYv post (hYp _ hp)⟩
theorem ob_op31 (R : ob_R n (e+1) b m res thr thn CL cOp cA cB OK oKin pVal aOut aVar FC FA FP FH FT fSelf stk TA TH xFc xFs xPc xKo xPk tw tc xSet S XH xHeld yCo yAr M yPair ySet yStay yHan yKept) (hm : m + 5 ≤ B) (hw : 4 * (e + 1) + ob_hs XH (e + 1) ≤ w) (hh : h ≤ 2) :
    ∃ u' v', ob_S b B (w + 4) u' v' ∧ (∀ post : SX → Prop, post u' → wpX_valueOp post (nI n, nI (e+1), nI b, deep, res, thr, thn, (fun zz => nI (CL zz)), cStr, cOp, cA, cB, (fun zz => nI (OK zz)), oKin, oOpen, xFc, xFs, xPc, xKo, xPk, (fun zz => ob_xa (tw zz) (te zz) (tc zz)), pVal, xSet, (fun zz => nI (S zz)), aOut, aVar, (fun zz => nI (FC zz)), (fun zz => nI (FP zz)), (fun zz => nI (FA zz)), (fun zz => nI (FH zz)), (fun zz => nI (XH zz)), (fun zz => nI (FT zz)), fSelf, xHeld, stk, (fun zz => nI (TA zz)), (fun zz => nI (TH zz)), xArg) 31 (nI h)) ∧ (∀ post : SY → Prop, post v' → wpY_two post (nI n, nI m, yGiven, nI (e+1), deep, nI b, thr, thn, res, cStr, (fun zz => nI (CL zz)), cOp, cA, cB, (fun zz => nI (OK zz)), oKin, yCo, yAr, oOpen, (fun zz => nI (M zz)), (fun zz => ob_yf (tw zz) (te zz) (tc zz)), yPair, ySeen, pVal, ySet, (fun zz => ob_th (S zz)), yStay, aOut, aVar, yArg, (fun zz => nI (FC zz)), (fun zz => nI (FA zz)), (fun zz => nI (FP zz)), (fun zz => nI (FH zz)), yHan, (fun zz => nI (FT zz)), (fun zz => nI (TA zz)), (fun zz => nI (TH zz)), fSelf, yKept, stk) 31 (nI h)) := by
  obtain ⟨y, FH', R1, hVy, hH, hX1, hY1⟩ := ob_pop (deep := deep) (cStr := cStr) (oOpen := oOpen) (te := te) (xArg := xArg) (ySeen := ySeen) (yArg := yArg) (yGiven := yGiven) R
  have hn := R1.2.1.1.2
  rcases ob_cls hVy with hl | ⟨o, ho, rfl⟩
  · obtain ⟨res', thr', thn', FH3, stk', R3, hXp, hYp⟩ := ob_push (deep := deep) (cStr := cStr) (oOpen := oOpen) (te := te) (xArg := xArg) (ySeen := ySeen) (yArg := yArg) (yGiven := yGiven) R1 hVy
    refine ⟨_, _, ob_S_mk (deep := deep) (cStr := cStr) (oOpen := oOpen) (te := te) (xArg := xArg) (ySeen := ySeen) (yArg := yArg) (yGiven := yGiven) R3 (by omega : m ≤ B) (by omega), fun post hp => ?_, fun post hp => ?_⟩
    · unfold wpX_valueOp
      refine hX1 _ (ob_objN hl _ ?_)
      refine br_f (by decide) (br_t (by decide) ?_)
      exact br_t (by decide) (hXp _ hp)
    · unfold wpY_two
      refine hY1 _ (br_t (by decide) ?_)
      unfold wY_two_19
      refine br_t rfl (ob_isoF hl _ (br_t rfl ?_))
      unfold wY_two_44
      exact br_f (by decide) (br_f (by decide) (br_f (by decide) (br_t rfl (hYp _ hp))))
  · have R2 := ob_sealR (o := o) (onW := decide (h = 2)) (onC := decide (h ≠ 0)) R1
    obtain ⟨res', thr', thn', FH3, stk', R3, hXp, hYp⟩ := ob_push (deep := deep) (cStr := cStr) (oOpen := (upd oOpen o 0)) (te := te) (xArg := xArg) (ySeen := ySeen) (yArg := yArg) (yGiven := yGiven) R2 hVy
    refine ⟨_, _, ob_S_mk (deep := deep) (cStr := cStr) (oOpen := (upd oOpen o 0)) (te := te) (xArg := xArg) (ySeen := ySeen) (yArg := yArg) (yGiven := yGiven) R3 (by omega : m ≤ B) (by omega), fun post hp => ?_, fun post hp => ?_⟩
    · unfold wpX_valueOp
      refine hX1 _ (ob_objO hn ho _ ?_)
      refine br_f (by decide) (br_t (by decide) ?_)
      refine br_f (nI_pos (by omega)) ?_
      exact ob_sealX (by omega) hh _ (hXp _ hp)
    · unfold wpY_two
      refine hY1 _ (br_t (by decide) ?_)
      unfold wY_two_19
      refine br_t rfl (ob_isoT o (by omega) _ (br_f (by decide) ?_))
      unfold wpY_number
      rw [ob_numb]
      refine ob_sealY ho hn hh _ ?_
      unfold wY_two_44
      exact br_f (by decide) (br_f (by decide) (br_f (by decide) (br_t rfl (hYp _ hp))))
end
