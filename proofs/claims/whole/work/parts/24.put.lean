/-! ===== PUT ===== -/
section
variable {n : Nat} {d : Nat} {b : Nat} {m : Nat} {deep : Int32} {res : Int64} {thr : Int32} {thn : Int64} {CL : Nat → Nat} {cStr : Nat → Int32} {cOp : Nat → Int32} {cA : Nat → Int32} {cB : Nat → Int32} {OK : Nat → Nat} {oKin : Nat → Int32} {oOpen : Nat → Int32} {pVal : Nat → Int64} {aOut : Nat → Int32} {aVar : Nat → Int64} {FC : Nat → Nat} {FA : Nat → Nat} {FP : Nat → Nat} {FH : Nat → Nat} {FT : Nat → Nat} {fSelf : Nat → Int64} {stk : Nat → Int64} {TA : Nat → Nat} {TH : Nat → Nat} {xFc : Nat → Int32} {xFs : Nat → Int32} {xPc : Nat → Int32} {xKo : Nat → Int32} {xPk : Nat → Int32} {tw : Nat → Bool} {te : Nat → Bool} {tc : Nat → Bool} {xSet : Nat → Int64} {S : Nat → Nat} {XH : Nat → Nat} {xHeld : Nat → Int64} {xArg : Nat → Int64} {yCo : Nat → Int32} {yAr : Nat → Int32} {M : Nat → Nat} {yPair : Nat → Int32} {ySeen : Nat → Int32} {ySet : Nat → Int64} {yStay : Nat → Int32} {yArg : Nat → Int64} {yHan : Nat → Int32} {yKept : Nat → Int64} {yGiven : Int32}
variable {o k i l B w : Nat} {base v : Int64} {strict : Int32}
theorem ob_fin (R : ob_R n d b m res thr thn CL cOp cA cB OK oKin pVal aOut aVar FC FA FP FH FT fSelf stk TA TH xFc xFs xPc xKo xPk tw tc xSet S XH xHeld yCo yAr M yPair ySet yStay yHan yKept) (hv : ob_V n v) (hm : m ≤ B) (hw : 4 * d + ob_hs XH d ≤ w) {r : Int32} (hr : r = -2 ∨ r = 0 ∨ r = 1) :
    ∃ u' v', ob_S b B w u' v' ∧ (∀ post : SX → Prop, post u' → wX_putValue_201 post v strict r (nI n) (nI d) (nI b) deep res thr thn (fun zz => nI (CL zz)) cStr cOp cA cB (fun zz => nI (OK zz)) oKin oOpen xFc xFs xPc xKo xPk (fun zz => ob_xa (tw zz) (te zz) (tc zz)) pVal xSet (fun zz => nI (S zz)) aOut aVar (fun zz => nI (FC zz)) (fun zz => nI (FP zz)) (fun zz => nI (FA zz)) (fun zz => nI (FH zz)) (fun zz => nI (XH zz)) (fun zz => nI (FT zz)) fSelf xHeld stk (fun zz => nI (TA zz)) (fun zz => nI (TH zz)) xArg) ∧ (∀ post : SY → Prop, post v' → wY_store_235 post v strict r (nI n) (nI m) yGiven (nI d) deep (nI b) thr thn res cStr (fun zz => nI (CL zz)) cOp cA cB (fun zz => nI (OK zz)) oKin yCo yAr oOpen (fun zz => nI (M zz)) (fun zz => ob_yf (tw zz) (te zz) (tc zz)) yPair ySeen pVal ySet (fun zz => ob_th (S zz)) yStay aOut aVar yArg (fun zz => nI (FC zz)) (fun zz => nI (FA zz)) (fun zz => nI (FP zz)) (fun zz => nI (FH zz)) yHan (fun zz => nI (FT zz)) (fun zz => nI (TA zz)) (fun zz => nI (TH zz)) fSelf yKept stk) := by
  have hpush : (r = 1 ∨ r = 0 ∧ strict = 0) → ∃ u' v', ob_S b B w u' v' ∧ (∀ post : SX → Prop, post u' → wX_putValue_201 post v strict r (nI n) (nI d) (nI b) deep res thr thn (fun zz => nI (CL zz)) cStr cOp cA cB (fun zz => nI (OK zz)) oKin oOpen xFc xFs xPc xKo xPk (fun zz => ob_xa (tw zz) (te zz) (tc zz)) pVal xSet (fun zz => nI (S zz)) aOut aVar (fun zz => nI (FC zz)) (fun zz => nI (FP zz)) (fun zz => nI (FA zz)) (fun zz => nI (FH zz)) (fun zz => nI (XH zz)) (fun zz => nI (FT zz)) fSelf xHeld stk (fun zz => nI (TA zz)) (fun zz => nI (TH zz)) xArg) ∧ (∀ post : SY → Prop, post v' → wY_store_235 post v strict r (nI n) (nI m) yGiven (nI d) deep (nI b) thr thn res cStr (fun zz => nI (CL zz)) cOp cA cB (fun zz => nI (OK zz)) oKin yCo yAr oOpen (fun zz => nI (M zz)) (fun zz => ob_yf (tw zz) (te zz) (tc zz)) yPair ySeen pVal ySet (fun zz => ob_th (S zz)) yStay aOut aVar yArg (fun zz => nI (FC zz)) (fun zz => nI (FA zz)) (fun zz => nI (FP zz)) (fun zz => nI (FH zz)) yHan (fun zz => nI (FT zz)) (fun zz => nI (TA zz)) (fun zz => nI (TH zz)) fSelf yKept stk) := by
    intro h
    obtain ⟨res', thr', thn', FH', stk', R2, hXp, hYp⟩ := ob_push (deep := deep) (cStr := cStr) (oOpen := oOpen) (te := te) (xArg := xArg) (ySeen := ySeen) (yArg := yArg) (yGiven := yGiven) R hv
    refine ⟨_, _, ob_S_mk (deep := deep) (cStr := cStr) (oOpen := oOpen) (te := te) (xArg := xArg) (ySeen := ySeen) (yArg := yArg) (yGiven := yGiven) R2 hm hw, fun post hp => ?_, fun post hp => ?_⟩
    · unfold wX_putValue_201 wX_putValue_238
      rcases h with rfl | ⟨rfl, h⟩
      · exact br_f (by decide) (br_f (by decide) (hXp _ hp))
      · exact br_f (by decide) (br_t rfl (br_t h (hXp _ hp)))
    · unfold wY_store_235 wY_store_271
      rcases h with rfl | ⟨rfl, h⟩
      · exact br_f (by decide) (br_f (by decide) (hYp _ hp))
      · exact br_f (by decide) (br_t rfl (br_t h (hYp _ hp)))
  rcases hr with rfl | rfl | rfl
  · refine ⟨_, _, ob_S_mk (deep := deep) (cStr := cStr) (oOpen := oOpen) (te := te) (xArg := xArg) (ySeen := ySeen) (yArg := yArg) (yGiven := yGiven) (ob_raise R (ob_V_Ra n)) hm hw, fun post hp => ?_, fun post hp => ?_⟩
    · unfold wX_putValue_201
      exact br_t rfl hp
    · unfold wY_store_235 wY_store_250 wY_store_265
      exact br_t (by decide) (br_f (by decide) hp)
  · by_cases hs : strict = 0
    · exact hpush (Or.inr ⟨rfl, hs⟩)
    · refine ⟨_, _, ob_S_mk (deep := deep) (cStr := cStr) (oOpen := oOpen) (te := te) (xArg := xArg) (ySeen := ySeen) (yArg := yArg) (yGiven := yGiven) (ob_raise R (ob_V_Ty n)) hm hw, fun post hp => ?_, fun post hp => ?_⟩
      · unfold wX_putValue_201
        exact br_f (by decide) (br_t rfl (br_f hs hp))
      · unfold wY_store_235 wY_store_250 wY_store_265
        exact br_f (by decide) (br_t rfl (br_f hs (br_t (by decide) hp)))
  · exact hpush (Or.inl rfl)
theorem ob_putv (R : ob_R n d b m res thr thn CL cOp cA cB OK oKin pVal aOut aVar FC FA FP FH FT fSelf stk TA TH xFc xFs xPc xKo xPk tw tc xSet S XH xHeld yCo yAr M yPair ySet yStay yHan yKept) (hres : res = 8589934592) (hb : ob_V n base) (hv : ob_V n v) (hk : k < 32) (hm : m + 1 ≤ B) (hB : B < 2 ^ 31) (hw : 4 * d + ob_hs XH d ≤ w) :
    ∃ u' v', ob_S b B (w + 4) u' v' ∧ (∀ post : SX → Prop, post u' → wpX_putValue post (nI n, nI d, nI b, deep, res, thr, thn, (fun zz => nI (CL zz)), cStr, cOp, cA, cB, (fun zz => nI (OK zz)), oKin, oOpen, xFc, xFs, xPc, xKo, xPk, (fun zz => ob_xa (tw zz) (te zz) (tc zz)), pVal, xSet, (fun zz => nI (S zz)), aOut, aVar, (fun zz => nI (FC zz)), (fun zz => nI (FP zz)), (fun zz => nI (FA zz)), (fun zz => nI (FH zz)), (fun zz => nI (XH zz)), (fun zz => nI (FT zz)), fSelf, xHeld, stk, (fun zz => nI (TA zz)), (fun zz => nI (TH zz)), xArg) base (nI k) v strict) ∧ (∀ post : SY → Prop, post v' → wpY_store post (nI n, nI m, yGiven, nI d, deep, nI b, thr, thn, res, cStr, (fun zz => nI (CL zz)), cOp, cA, cB, (fun zz => nI (OK zz)), oKin, yCo, yAr, oOpen, (fun zz => nI (M zz)), (fun zz => ob_yf (tw zz) (te zz) (tc zz)), yPair, ySeen, pVal, ySet, (fun zz => ob_th (S zz)), yStay, aOut, aVar, yArg, (fun zz => nI (FC zz)), (fun zz => nI (FA zz)), (fun zz => nI (FP zz)), (fun zz => nI (FH zz)), yHan, (fun zz => nI (FT zz)), (fun zz => nI (TA zz)), (fun zz => nI (TH zz)), fSelf, yKept, stk) base (nI k) v strict) := by
  have hn : n ≤ 32 := R.2.1.1.2
  /- nothing done -/
  have hno : (∀ post : SX → Prop, wX_putValue_201 post v strict 0 (nI n) (nI d) (nI b) deep res thr thn (fun zz => nI (CL zz)) cStr cOp cA cB (fun zz => nI (OK zz)) oKin oOpen xFc xFs xPc xKo xPk (fun zz => ob_xa (tw zz) (te zz) (tc zz)) pVal xSet (fun zz => nI (S zz)) aOut aVar (fun zz => nI (FC zz)) (fun zz => nI (FP zz)) (fun zz => nI (FA zz)) (fun zz => nI (FH zz)) (fun zz => nI (XH zz)) (fun zz => nI (FT zz)) fSelf xHeld stk (fun zz => nI (TA zz)) (fun zz => nI (TH zz)) xArg → wpX_putValue post (nI n, nI d, nI b, deep, res, thr, thn, (fun zz => nI (CL zz)), cStr, cOp, cA, cB, (fun zz => nI (OK zz)), oKin, oOpen, xFc, xFs, xPc, xKo, xPk, (fun zz => ob_xa (tw zz) (te zz) (tc zz)), pVal, xSet, (fun zz => nI (S zz)), aOut, aVar, (fun zz => nI (FC zz)), (fun zz => nI (FP zz)), (fun zz => nI (FA zz)), (fun zz => nI (FH zz)), (fun zz => nI (XH zz)), (fun zz => nI (FT zz)), fSelf, xHeld, stk, (fun zz => nI (TA zz)), (fun zz => nI (TH zz)), xArg) base (nI k) v strict) → (∀ post : SY → Prop, wY_store_235 post v strict 0 (nI n) (nI m) 1 (nI d) deep (nI b) thr thn res cStr (fun zz => nI (CL zz)) cOp cA cB (fun zz => nI (OK zz)) oKin yCo yAr oOpen (fun zz => nI (M zz)) (fun zz => ob_yf (tw zz) (te zz) (tc zz)) yPair ySeen pVal ySet (fun zz => ob_th (S zz)) yStay aOut aVar (vp_updL yArg 0 v) (fun zz => nI (FC zz)) (fun zz => nI (FA zz)) (fun zz => nI (FP zz)) (fun zz => nI (FH zz)) yHan (fun zz => nI (FT zz)) (fun zz => nI (TA zz)) (fun zz => nI (TH zz)) fSelf yKept stk → wpY_store post (nI n, nI m, yGiven, nI d, deep, nI b, thr, thn, res, cStr, (fun zz => nI (CL zz)), cOp, cA, cB, (fun zz => nI (OK zz)), oKin, yCo, yAr, oOpen, (fun zz => nI (M zz)), (fun zz => ob_yf (tw zz) (te zz) (tc zz)), yPair, ySeen, pVal, ySet, (fun zz => ob_th (S zz)), yStay, aOut, aVar, yArg, (fun zz => nI (FC zz)), (fun zz => nI (FA zz)), (fun zz => nI (FP zz)), (fun zz => nI (FH zz)), yHan, (fun zz => nI (FT zz)), (fun zz => nI (TA zz)), (fun zz => nI (TH zz)), fSelf, yKept, stk) base (nI k) v strict) →
      ∃ u' v', ob_S b B (w + 4) u' v' ∧ (∀ post : SX → Prop, post u' → wpX_putValue post (nI n, nI d, nI b, deep, res, thr, thn, (fun zz => nI (CL zz)), cStr, cOp, cA, cB, (fun zz => nI (OK zz)), oKin, oOpen, xFc, xFs, xPc, xKo, xPk, (fun zz => ob_xa (tw zz) (te zz) (tc zz)), pVal, xSet, (fun zz => nI (S zz)), aOut, aVar, (fun zz => nI (FC zz)), (fun zz => nI (FP zz)), (fun zz => nI (FA zz)), (fun zz => nI (FH zz)), (fun zz => nI (XH zz)), (fun zz => nI (FT zz)), fSelf, xHeld, stk, (fun zz => nI (TA zz)), (fun zz => nI (TH zz)), xArg) base (nI k) v strict) ∧ (∀ post : SY → Prop, post v' → wpY_store post (nI n, nI m, yGiven, nI d, deep, nI b, thr, thn, res, cStr, (fun zz => nI (CL zz)), cOp, cA, cB, (fun zz => nI (OK zz)), oKin, yCo, yAr, oOpen, (fun zz => nI (M zz)), (fun zz => ob_yf (tw zz) (te zz) (tc zz)), yPair, ySeen, pVal, ySet, (fun zz => ob_th (S zz)), yStay, aOut, aVar, yArg, (fun zz => nI (FC zz)), (fun zz => nI (FA zz)), (fun zz => nI (FP zz)), (fun zz => nI (FH zz)), yHan, (fun zz => nI (FT zz)), (fun zz => nI (TA zz)), (fun zz => nI (TH zz)), fSelf, yKept, stk) base (nI k) v strict) := by
    intro hX hY
    obtain ⟨u', v', hS, h1, h2⟩ := ob_fin (deep := deep) (cStr := cStr) (oOpen := oOpen) (te := te) (xArg := xArg) (ySeen := ySeen) (yArg := (vp_updL yArg 0 v)) (yGiven := 1) (strict := strict) (B := B) (w := w + 4) R hv (by omega) (by omega) (Or.inr (Or.inl rfl))
    exact ⟨u', v', hS, fun post hp => hX post (h1 post hp), fun post hp => hY post (h2 post hp)⟩
  have hTY : (base = 8589934592 ∨ base = 8589934593) → base < 17179869184 → ∃ u' v', ob_S b B (w + 4) u' v' ∧ (∀ post : SX → Prop, post u' → wpX_putValue post (nI n, nI d, nI b, deep, res, thr, thn, (fun zz => nI (CL zz)), cStr, cOp, cA, cB, (fun zz => nI (OK zz)), oKin, oOpen, xFc, xFs, xPc, xKo, xPk, (fun zz => ob_xa (tw zz) (te zz) (tc zz)), pVal, xSet, (fun zz => nI (S zz)), aOut, aVar, (fun zz => nI (FC zz)), (fun zz => nI (FP zz)), (fun zz => nI (FA zz)), (fun zz => nI (FH zz)), (fun zz => nI (XH zz)), (fun zz => nI (FT zz)), fSelf, xHeld, stk, (fun zz => nI (TA zz)), (fun zz => nI (TH zz)), xArg) base (nI k) v strict) ∧ (∀ post : SY → Prop, post v' → wpY_store post (nI n, nI m, yGiven, nI d, deep, nI b, thr, thn, res, cStr, (fun zz => nI (CL zz)), cOp, cA, cB, (fun zz => nI (OK zz)), oKin, yCo, yAr, oOpen, (fun zz => nI (M zz)), (fun zz => ob_yf (tw zz) (te zz) (tc zz)), yPair, ySeen, pVal, ySet, (fun zz => ob_th (S zz)), yStay, aOut, aVar, yArg, (fun zz => nI (FC zz)), (fun zz => nI (FA zz)), (fun zz => nI (FP zz)), (fun zz => nI (FH zz)), yHan, (fun zz => nI (FT zz)), (fun zz => nI (TA zz)), (fun zz => nI (TH zz)), fSelf, yKept, stk) base (nI k) v strict) := by
    intro hbs hlt
    refine ⟨_, _, ob_S_mk (deep := deep) (cStr := cStr) (oOpen := oOpen) (te := te) (xArg := xArg) (ySeen := ySeen) (yArg := (vp_updL yArg 0 v)) (yGiven := 1) (ob_raise R (ob_V_Ty n)) (by omega : m ≤ B) (by omega), fun post hp => ?_, fun post hp => ?_⟩
    · unfold wpX_putValue wX_putValue_16
      rcases hbs with h | h
      · exact br_t h hp
      · by_cases hU : base = 8589934592
        · exact br_t hU hp
        · exact br_f hU (br_t h hp)
    · unfold wpY_store
      refine ob_isoF hlt _ (br_t rfl ?_)
      unfold wY_store_15
      refine br_f (by decide) ?_
      unfold wY_store_33
      refine br_t (by decide) ?_
      unfold wY_store_57 wY_store_58
      refine br_t (by decide) ?_
      unfold wY_store_111 wY_store_112
      refine nm_e (br_t rfl ?_)
      unfold wY_store_157 wY_store_173
      rcases hbs with h | h
      · exact br_t h hp
      · by_cases hU : base = 8589934592
        · exact br_t hU hp
        · exact br_f hU (br_t h hp)
  by_cases hU : base = 8589934592
  · exact hTY (Or.inl hU) (by rw [hU]; decide)
  by_cases hN : base = 8589934593
  · exact hTY (Or.inr hN) (by rw [hN]; decide)
  rcases ob_cls hb with hl | ⟨o, ho, rfl⟩
  · refine hno (fun post hp => ?_) (fun post hp => ?_)
    · unfold wpX_putValue
      refine br_f hU (br_f hN (ob_objN hl _ ?_))
      refine ob_findN _ (br_t (by decide) ?_)
      unfold wX_putValue_95 wX_putValue_116 wX_putValue_117 wX_putValue_140 wX_putValue_141
      exact br_t (by decide) (br_t (by decide) (br_t (by decide) hp))
    · unfold wpY_store
      refine ob_isoF hl _ (br_t rfl ?_)
      unfold wY_store_15
      refine br_f (by decide) ?_
      unfold wY_store_33
      refine br_t (by decide) ?_
      unfold wY_store_57 wY_store_58
      refine br_t (by decide) ?_
      unfold wY_store_111 wY_store_112
      refine nm_e (br_t rfl ?_)
      unfold wY_store_157
      exact br_f hU (br_f hN (br_t (by decide) hp))
  obtain ⟨r, hr, hXl, hYl⟩ := ob_look (n := n) (d := d) (b := b) (m := m) (deep := deep) (res := res) (thr := thr) (thn := thn) (CL := CL) (cStr := cStr) (cOp := cOp) (cA := cA) (cB := cB) (OK := OK) (oKin := oKin) (oOpen := oOpen) (pVal := pVal) (aOut := aOut) (aVar := aVar) (FC := FC) (FA := FA) (FP := FP) (FH := FH) (FT := FT) (fSelf := fSelf) (stk := stk) (TA := TA) (TH := TH) (xFc := xFc) (xFs := xFs) (xPc := xPc) (xKo := xKo) (xPk := xPk) (tw := tw) (te := te) (tc := tc) (xSet := xSet) (S := S) (XH := XH) (xHeld := xHeld) (xArg := xArg) (yCo := yCo) (yAr := yAr) (M := M) (yPair := yPair) (ySeen := ySeen) (ySet := ySet) (yStay := yStay) (yArg := yArg) (yHan := yHan) (yKept := yKept) (yGiven := yGiven) R.2.1 R.2.2.1 (by omega) hk ho
  have hY33 : ∀ post : SY → Prop, wY_store_33 post (lN (17179869184 + o)) (nI k) v strict (nI o) r (nI n) (nI m) yGiven (nI d) deep (nI b) thr thn res cStr (fun zz => nI (CL zz)) cOp cA cB (fun zz => nI (OK zz)) oKin yCo yAr oOpen (fun zz => nI (M zz)) (fun zz => ob_yf (tw zz) (te zz) (tc zz)) yPair ySeen pVal ySet (fun zz => ob_th (S zz)) yStay aOut aVar yArg (fun zz => nI (FC zz)) (fun zz => nI (FA zz)) (fun zz => nI (FP zz)) (fun zz => nI (FH zz)) yHan (fun zz => nI (FT zz)) (fun zz => nI (TA zz)) (fun zz => nI (TH zz)) fSelf yKept stk → wpY_store post (nI n, nI m, yGiven, nI d, deep, nI b, thr, thn, res, cStr, (fun zz => nI (CL zz)), cOp, cA, cB, (fun zz => nI (OK zz)), oKin, yCo, yAr, oOpen, (fun zz => nI (M zz)), (fun zz => ob_yf (tw zz) (te zz) (tc zz)), yPair, ySeen, pVal, ySet, (fun zz => ob_th (S zz)), yStay, aOut, aVar, yArg, (fun zz => nI (FC zz)), (fun zz => nI (FA zz)), (fun zz => nI (FP zz)), (fun zz => nI (FH zz)), yHan, (fun zz => nI (FT zz)), (fun zz => nI (TA zz)), (fun zz => nI (TH zz)), fSelf, yKept, stk) (lN (17179869184 + o)) (nI k) v strict := by
    intro post hp
    unfold wpY_store
    refine ob_isoT o (by omega) _ (br_f (by decide) ?_)
    unfold wpY_number
    rw [ob_numb]
    unfold wY_store_15
    exact br_t (nI_pos' (by omega)) (hYl _ hp)
  /- DEFINE, then the end; x8 is where the look ended -/
  have hdef : ∀ (own : Bool) (x8 : Int32), (x8 < 0 ∨ vp_in x8 1024) → 
      (∀ post : SX → Prop, wX_putValue_183 post (nI k) v strict (nI o) (if own then 64 else 127) (nI n) (nI d) (nI b) deep res thr thn (fun zz => nI (CL zz)) cStr cOp cA cB (fun zz => nI (OK zz)) oKin oOpen xFc xFs xPc xKo xPk (fun zz => ob_xa (tw zz) (te zz) (tc zz)) pVal xSet (fun zz => nI (S zz)) aOut aVar (fun zz => nI (FC zz)) (fun zz => nI (FP zz)) (fun zz => nI (FA zz)) (fun zz => nI (FH zz)) (fun zz => nI (XH zz)) (fun zz => nI (FT zz)) fSelf xHeld stk (fun zz => nI (TA zz)) (fun zz => nI (TH zz)) xArg → wpX_putValue post (nI n, nI d, nI b, deep, res, thr, thn, (fun zz => nI (CL zz)), cStr, cOp, cA, cB, (fun zz => nI (OK zz)), oKin, oOpen, xFc, xFs, xPc, xKo, xPk, (fun zz => ob_xa (tw zz) (te zz) (tc zz)), pVal, xSet, (fun zz => nI (S zz)), aOut, aVar, (fun zz => nI (FC zz)), (fun zz => nI (FP zz)), (fun zz => nI (FA zz)), (fun zz => nI (FH zz)), (fun zz => nI (XH zz)), (fun zz => nI (FT zz)), fSelf, xHeld, stk, (fun zz => nI (TA zz)), (fun zz => nI (TH zz)), xArg) (lN (17179869184 + o)) (nI k) v strict) →
      (∀ post : SY → Prop, wY_store_147 post (lN (17179869184 + o)) v strict x8 1 (if own then 1 else 51) (nI k) (nI o) (nI n) (nI m) 1 (nI d) deep (nI b) thr thn res cStr (fun zz => nI (CL zz)) cOp cA cB (fun zz => nI (OK zz)) oKin yCo yAr oOpen (fun zz => nI (M zz)) (fun zz => ob_yf (tw zz) (te zz) (tc zz)) yPair ySeen pVal ySet (fun zz => ob_th (S zz)) yStay aOut aVar (vp_updL yArg 0 v) (fun zz => nI (FC zz)) (fun zz => nI (FA zz)) (fun zz => nI (FP zz)) (fun zz => nI (FH zz)) yHan (fun zz => nI (FT zz)) (fun zz => nI (TA zz)) (fun zz => nI (TH zz)) fSelf yKept stk → wpY_store post (nI n, nI m, yGiven, nI d, deep, nI b, thr, thn, res, cStr, (fun zz => nI (CL zz)), cOp, cA, cB, (fun zz => nI (OK zz)), oKin, yCo, yAr, oOpen, (fun zz => nI (M zz)), (fun zz => ob_yf (tw zz) (te zz) (tc zz)), yPair, ySeen, pVal, ySet, (fun zz => ob_th (S zz)), yStay, aOut, aVar, yArg, (fun zz => nI (FC zz)), (fun zz => nI (FA zz)), (fun zz => nI (FP zz)), (fun zz => nI (FH zz)), yHan, (fun zz => nI (FT zz)), (fun zz => nI (TA zz)), (fun zz => nI (TH zz)), fSelf, yKept, stk) (lN (17179869184 + o)) (nI k) v strict) →
      ∃ u' v', ob_S b B (w + 4) u' v' ∧ (∀ post : SX → Prop, post u' → wpX_putValue post (nI n, nI d, nI b, deep, res, thr, thn, (fun zz => nI (CL zz)), cStr, cOp, cA, cB, (fun zz => nI (OK zz)), oKin, oOpen, xFc, xFs, xPc, xKo, xPk, (fun zz => ob_xa (tw zz) (te zz) (tc zz)), pVal, xSet, (fun zz => nI (S zz)), aOut, aVar, (fun zz => nI (FC zz)), (fun zz => nI (FP zz)), (fun zz => nI (FA zz)), (fun zz => nI (FH zz)), (fun zz => nI (XH zz)), (fun zz => nI (FT zz)), fSelf, xHeld, stk, (fun zz => nI (TA zz)), (fun zz => nI (TH zz)), xArg) (lN (17179869184 + o)) (nI k) v strict) ∧ (∀ post : SY → Prop, post v' → wpY_store post (nI n, nI m, yGiven, nI d, deep, nI b, thr, thn, res, cStr, (fun zz => nI (CL zz)), cOp, cA, cB, (fun zz => nI (OK zz)), oKin, yCo, yAr, oOpen, (fun zz => nI (M zz)), (fun zz => ob_yf (tw zz) (te zz) (tc zz)), yPair, ySeen, pVal, ySet, (fun zz => ob_th (S zz)), yStay, aOut, aVar, yArg, (fun zz => nI (FC zz)), (fun zz => nI (FA zz)), (fun zz => nI (FP zz)), (fun zz => nI (FH zz)), yHan, (fun zz => nI (FT zz)), (fun zz => nI (TA zz)), (fun zz => nI (TH zz)), fSelf, yKept, stk) (lN (17179869184 + o)) (nI k) v strict) := by
    intro own x8 hx8 hX hY
    have hend : ∀ (r1 : Int32) (x9' : Int32) (post : SY → Prop) (yPair' : Nat → Int32) (m' : Nat) (M' : Nat → Nat) (pVal' : Nat → Int64) (tw' : Nat → Bool) (te' : Nat → Bool) (tc' : Nat → Bool) (ySet' : Nat → Int64), wY_store_235 post v strict r1 (nI n) (nI m') 1 (nI d) deep (nI b) thr thn res cStr (fun zz => nI (CL zz)) cOp cA cB (fun zz => nI (OK zz)) oKin yCo yAr oOpen (fun zz => nI (M' zz)) (fun zz => ob_yf (tw' zz) (te' zz) (tc' zz)) yPair' ySeen pVal' ySet' (fun zz => ob_th (S zz)) yStay aOut aVar (vp_updL yArg 0 v) (fun zz => nI (FC zz)) (fun zz => nI (FA zz)) (fun zz => nI (FP zz)) (fun zz => nI (FH zz)) yHan (fun zz => nI (FT zz)) (fun zz => nI (TA zz)) (fun zz => nI (TH zz)) fSelf yKept stk → wY_store_157 post (lN (17179869184 + o)) v strict x8 r1 1 (nI n) (nI m') 1 (nI d) deep (nI b) thr thn res cStr (fun zz => nI (CL zz)) cOp cA cB (fun zz => nI (OK zz)) oKin yCo yAr oOpen (fun zz => nI (M' zz)) (fun zz => ob_yf (tw' zz) (te' zz) (tc' zz)) yPair' ySeen pVal' ySet' (fun zz => ob_th (S zz)) yStay aOut aVar (vp_updL yArg 0 v) (fun zz => nI (FC zz)) (fun zz => nI (FA zz)) (fun zz => nI (FP zz)) (fun zz => nI (FH zz)) yHan (fun zz => nI (FT zz)) (fun zz => nI (TA zz)) (fun zz => nI (TH zz)) fSelf yKept stk := by
      intro r1 _ post yPair' m' M' pVal' tw' te' tc' ySet' h
      unfold wY_store_157
      refine br_f hU (br_f hN ?_)
      by_cases hx0 : x8 < 0
      · exact br_t hx0 h
      · refine br_f hx0 ?_
        rcases hx8 with hx | hx
        · exact absurd hx hx0
        · exact ⟨hx, br_c (fun _ => h) (fun _ => br_f (by decide) h)⟩
    cases own
    · obtain ⟨r1, m', M', xPc', xKo', pVal', xPk', tw', te', tc', xSet', yPair', ySet', R1, hm1, hr1, hXs, hYs⟩ := ob_settle (deep := deep) (cStr := cStr) (oOpen := oOpen) (te := te) (xArg := xArg) (ySeen := ySeen) (yArg := (vp_updL yArg 0 v)) (yGiven := 1) (sV := true) (sG := false) (sS := false) (sW := true) (sE := true) (sC := true) (oW := true) (oE := true) (oC := true) (pW := true) (pE := true) (pC := true) (v := v) (w := 8589934592) (wy := 0) ⟨fun _ => rfl, fun _ => rfl, fun _ => rfl⟩ R ho hk (by omega) rfl (fun _ => hv) (fun h => absurd h (by decide))
      obtain ⟨u', v', hS, h1, h2⟩ := ob_fin (deep := deep) (cStr := cStr) (oOpen := oOpen) (te := te') (xArg := xArg) (ySeen := ySeen) (yArg := (vp_updL yArg 0 v)) (yGiven := 1) (strict := strict) (B := B) (w := w + 4) R1 hv (by omega) (by omega) hr1
      refine ⟨u', v', hS, fun post hp => hX post ?_, fun post hp => hY post ?_⟩
      · unfold wX_putValue_183
        exact hXs _ (h1 post hp)
      · unfold wY_store_147
        exact hYs _ (hend _ 0 post _ _ _ _ _ _ _ _ (h2 post hp))
    · obtain ⟨r1, m', M', xPc', xKo', pVal', xPk', tw', te', tc', xSet', yPair', ySet', R1, hm1, hr1, hXs, hYs⟩ := ob_settle (deep := deep) (cStr := cStr) (oOpen := oOpen) (te := te) (xArg := xArg) (ySeen := ySeen) (yArg := (vp_updL yArg 0 v)) (yGiven := 1) (sV := true) (sG := false) (sS := false) (sW := false) (sE := false) (sC := false) (oW := false) (oE := false) (oC := false) (pW := true) (pE := true) (pC := true) (v := v) (w := 8589934592) (wy := 0) ⟨fun h => absurd h (by decide), fun h => absurd h (by decide), fun h => absurd h (by decide)⟩ R ho hk (by omega) rfl (fun _ => hv) (fun h => absurd h (by decide))
      obtain ⟨u', v', hS, h1, h2⟩ := ob_fin (deep := deep) (cStr := cStr) (oOpen := oOpen) (te := te') (xArg := xArg) (ySeen := ySeen) (yArg := (vp_updL yArg 0 v)) (yGiven := 1) (strict := strict) (B := B) (w := w + 4) R1 hv (by omega) (by omega) hr1
      refine ⟨u', v', hS, fun post hp => hX post ?_, fun post hp => hY post ?_⟩
      · unfold wX_putValue_183
        exact hXs _ (h1 post hp)
      · unfold wY_store_147
        exact hYs _ (hend _ 0 post _ _ _ _ _ _ _ _ (h2 post hp))
  have hoo : ¬ nI o < 0 := nI_pos (by omega)
  /- nothing of its own, and it may grow, or not -/
  have hgrow : ∀ x8 : Int32, (x8 < 0 ∨ (vp_in x8 1024 ∧ yPair x8.toNatClampNeg = 0)) → 
      (∀ post : SX → Prop, wX_putValue_140 post (nI k) v strict (nI o) 0 (nI n) (nI d) (nI b) deep res thr thn (fun zz => nI (CL zz)) cStr cOp cA cB (fun zz => nI (OK zz)) oKin oOpen xFc xFs xPc xKo xPk (fun zz => ob_xa (tw zz) (te zz) (tc zz)) pVal xSet (fun zz => nI (S zz)) aOut aVar (fun zz => nI (FC zz)) (fun zz => nI (FP zz)) (fun zz => nI (FA zz)) (fun zz => nI (FH zz)) (fun zz => nI (XH zz)) (fun zz => nI (FT zz)) fSelf xHeld stk (fun zz => nI (TA zz)) (fun zz => nI (TH zz)) xArg → wpX_putValue post (nI n, nI d, nI b, deep, res, thr, thn, (fun zz => nI (CL zz)), cStr, cOp, cA, cB, (fun zz => nI (OK zz)), oKin, oOpen, xFc, xFs, xPc, xKo, xPk, (fun zz => ob_xa (tw zz) (te zz) (tc zz)), pVal, xSet, (fun zz => nI (S zz)), aOut, aVar, (fun zz => nI (FC zz)), (fun zz => nI (FP zz)), (fun zz => nI (FA zz)), (fun zz => nI (FH zz)), (fun zz => nI (XH zz)), (fun zz => nI (FT zz)), fSelf, xHeld, stk, (fun zz => nI (TA zz)), (fun zz => nI (TH zz)), xArg) (lN (17179869184 + o)) (nI k) v strict) →
      (∀ post : SY → Prop, wY_store_92 post (lN (17179869184 + o)) (nI k) v strict (nI o) x8 0 0 (nI n) (nI m) yGiven (nI d) deep (nI b) thr thn res cStr (fun zz => nI (CL zz)) cOp cA cB (fun zz => nI (OK zz)) oKin yCo yAr oOpen (fun zz => nI (M zz)) (fun zz => ob_yf (tw zz) (te zz) (tc zz)) yPair ySeen pVal ySet (fun zz => ob_th (S zz)) yStay aOut aVar yArg (fun zz => nI (FC zz)) (fun zz => nI (FA zz)) (fun zz => nI (FP zz)) (fun zz => nI (FH zz)) yHan (fun zz => nI (FT zz)) (fun zz => nI (TA zz)) (fun zz => nI (TH zz)) fSelf yKept stk → wpY_store post (nI n, nI m, yGiven, nI d, deep, nI b, thr, thn, res, cStr, (fun zz => nI (CL zz)), cOp, cA, cB, (fun zz => nI (OK zz)), oKin, yCo, yAr, oOpen, (fun zz => nI (M zz)), (fun zz => ob_yf (tw zz) (te zz) (tc zz)), yPair, ySeen, pVal, ySet, (fun zz => ob_th (S zz)), yStay, aOut, aVar, yArg, (fun zz => nI (FC zz)), (fun zz => nI (FA zz)), (fun zz => nI (FP zz)), (fun zz => nI (FH zz)), yHan, (fun zz => nI (FT zz)), (fun zz => nI (TA zz)), (fun zz => nI (TH zz)), fSelf, yKept, stk) (lN (17179869184 + o)) (nI k) v strict) →
      ∃ u' v', ob_S b B (w + 4) u' v' ∧ (∀ post : SX → Prop, post u' → wpX_putValue post (nI n, nI d, nI b, deep, res, thr, thn, (fun zz => nI (CL zz)), cStr, cOp, cA, cB, (fun zz => nI (OK zz)), oKin, oOpen, xFc, xFs, xPc, xKo, xPk, (fun zz => ob_xa (tw zz) (te zz) (tc zz)), pVal, xSet, (fun zz => nI (S zz)), aOut, aVar, (fun zz => nI (FC zz)), (fun zz => nI (FP zz)), (fun zz => nI (FA zz)), (fun zz => nI (FH zz)), (fun zz => nI (XH zz)), (fun zz => nI (FT zz)), fSelf, xHeld, stk, (fun zz => nI (TA zz)), (fun zz => nI (TH zz)), xArg) (lN (17179869184 + o)) (nI k) v strict) ∧ (∀ post : SY → Prop, post v' → wpY_store post (nI n, nI m, yGiven, nI d, deep, nI b, thr, thn, res, cStr, (fun zz => nI (CL zz)), cOp, cA, cB, (fun zz => nI (OK zz)), oKin, yCo, yAr, oOpen, (fun zz => nI (M zz)), (fun zz => ob_yf (tw zz) (te zz) (tc zz)), yPair, ySeen, pVal, ySet, (fun zz => ob_th (S zz)), yStay, aOut, aVar, yArg, (fun zz => nI (FC zz)), (fun zz => nI (FA zz)), (fun zz => nI (FP zz)), (fun zz => nI (FH zz)), yHan, (fun zz => nI (FT zz)), (fun zz => nI (TA zz)), (fun zz => nI (TH zz)), fSelf, yKept, stk) (lN (17179869184 + o)) (nI k) v strict) := by
    intro x8 hx8 hX hY
    by_cases hop : oOpen o = 0
    · refine hno (fun post hp => hX post ?_) (fun post hp => hY post ?_)
      · unfold wX_putValue_140 wX_putValue_141
        simp (disch := first | omega | decide) only [hop, forall_eq, not_true, not_false_iff, false_implies, true_implies, true_and, and_true, ob_sub1, Nat.add_sub_cancel, nI_1, ob_ix, ob_iy, ob_ix24, ob_iy24, ob_ix10, ob_iy10, ob_ix4, ob_iy4, ob_ix3, ob_iy3, ob_s1, ob_s2, ob_s3, ob_s4, ob_ltl, ob_lel, ob_eql, ob_ltr, ob_ler, ob_uN, Nat.add_one_ne_zero, ob_xs3, ob_lnn, ob_ltn, ob_eqn, Nat.not_lt_zero, Nat.zero_le, Nat.reduceEqDiff, Nat.reduceLeDiff, Nat.reduceLT, ob_eqll, Int32.reduceLT, Int32.reduceLE, eq_self_iff_true]
        exact hp
      · unfold wY_store_92
        simp (disch := first | omega | decide) only [hop, forall_eq, not_true, not_false_iff, false_implies, true_implies, true_and, and_true, ob_sub1, Nat.add_sub_cancel, nI_1, ob_ix, ob_iy, ob_ix24, ob_iy24, ob_ix10, ob_iy10, ob_ix4, ob_iy4, ob_ix3, ob_iy3, ob_s1, ob_s2, ob_s3, ob_s4, ob_ltl, ob_lel, ob_eql, ob_ltr, ob_ler, ob_uN, Nat.add_one_ne_zero, ob_xs3, ob_lnn, ob_ltn, ob_eqn, Nat.not_lt_zero, Nat.zero_le, Nat.reduceEqDiff, Nat.reduceLeDiff, Nat.reduceLT, ob_eqll, Int32.reduceLT, Int32.reduceLE, eq_self_iff_true]
        unfold wY_store_111 wY_store_112
        refine nm_e (br_t rfl ?_)
        unfold wY_store_157
        refine br_f hU (br_f hN ?_)
        by_cases hx0 : x8 < 0
        · exact br_t hx0 hp
        · refine br_f hx0 ?_
          rcases hx8 with hx | hx
          · exact absurd hx hx0
          · exact ⟨hx.1, br_t hx.2 hp⟩
    · refine hdef false x8 (hx8.imp id And.left) (fun post hp => hX post ?_) (fun post hp => hY post ?_)
      · unfold wX_putValue_140 wX_putValue_141
        simp (disch := first | omega | decide) only [hop, forall_eq, not_true, not_false_iff, false_implies, true_implies, true_and, and_true, ob_sub1, Nat.add_sub_cancel, nI_1, ob_ix, ob_iy, ob_ix24, ob_iy24, ob_ix10, ob_iy10, ob_ix4, ob_iy4, ob_ix3, ob_iy3, ob_s1, ob_s2, ob_s3, ob_s4, ob_ltl, ob_lel, ob_eql, ob_ltr, ob_ler, ob_uN, Nat.add_one_ne_zero, ob_xs3, ob_lnn, ob_ltn, ob_eqn, Nat.not_lt_zero, Nat.zero_le, Nat.reduceEqDiff, Nat.reduceLeDiff, Nat.reduceLT, ob_eqll, Int32.reduceLT, Int32.reduceLE, eq_self_iff_true]
        unfold wX_putValue_171
        exact br_t rfl hp
      · unfold wY_store_92
        simp (disch := first | omega | decide) only [hop, forall_eq, not_true, not_false_iff, false_implies, true_implies, true_and, and_true, ob_sub1, Nat.add_sub_cancel, nI_1, ob_ix, ob_iy, ob_ix24, ob_iy24, ob_ix10, ob_iy10, ob_ix4, ob_iy4, ob_ix3, ob_iy3, ob_s1, ob_s2, ob_s3, ob_s4, ob_ltl, ob_lel, ob_eql, ob_ltr, ob_ler, ob_uN, Nat.add_one_ne_zero, ob_xs3, ob_lnn, ob_ltn, ob_eqn, Nat.not_lt_zero, Nat.zero_le, Nat.reduceEqDiff, Nat.reduceLeDiff, Nat.reduceLT, ob_eqll, Int32.reduceLT, Int32.reduceLE, eq_self_iff_true]
        unfold wY_store_107 wY_store_112
        exact nm_e (br_f (by decide) (br_t rfl hp))
  have hX0 : ∀ post : SX → Prop, ((r < 0 → wX_putValue_95 post (nI k) v strict (nI o) r (nI n) (nI d) (nI b) deep res thr thn (fun zz => nI (CL zz)) cStr cOp cA cB (fun zz => nI (OK zz)) oKin oOpen xFc xFs xPc xKo xPk (fun zz => ob_xa (tw zz) (te zz) (tc zz)) pVal xSet (fun zz => nI (S zz)) aOut aVar (fun zz => nI (FC zz)) (fun zz => nI (FP zz)) (fun zz => nI (FA zz)) (fun zz => nI (FH zz)) (fun zz => nI (XH zz)) (fun zz => nI (FT zz)) fSelf xHeld stk (fun zz => nI (TA zz)) (fun zz => nI (TH zz)) xArg) ∧ (¬ r < 0 → (vp_in r 1024 ∧ ((xPk r.toNatClampNeg = 2 → (vp_in r 1024 ∧ ((xSet r.toNatClampNeg = 8589934592 → wX_putValue_95 post (nI k) v strict (nI o) r (nI n) (nI d) (nI b) deep res thr thn (fun zz => nI (CL zz)) cStr cOp cA cB (fun zz => nI (OK zz)) oKin oOpen xFc xFs xPc xKo xPk (fun zz => ob_xa (tw zz) (te zz) (tc zz)) pVal xSet (fun zz => nI (S zz)) aOut aVar (fun zz => nI (FC zz)) (fun zz => nI (FP zz)) (fun zz => nI (FA zz)) (fun zz => nI (FH zz)) (fun zz => nI (XH zz)) (fun zz => nI (FT zz)) fSelf xHeld stk (fun zz => nI (TA zz)) (fun zz => nI (TH zz)) xArg) ∧ (¬ xSet r.toNatClampNeg = 8589934592 → ∀ aa : Nat → Int64, aa = vp_updL xArg 0 v → (vp_in r 1024 ∧ wpX_beginCall post (nI n, nI d, nI b, deep, res, thr, thn, (fun zz => nI (CL zz)), cStr, cOp, cA, cB, (fun zz => nI (OK zz)), oKin, oOpen, xFc, xFs, xPc, xKo, xPk, (fun zz => ob_xa (tw zz) (te zz) (tc zz)), pVal, xSet, (fun zz => nI (S zz)), aOut, aVar, (fun zz => nI (FC zz)), (fun zz => nI (FP zz)), (fun zz => nI (FA zz)), (fun zz => nI (FH zz)), (fun zz => nI (XH zz)), (fun zz => nI (FT zz)), fSelf, xHeld, stk, (fun zz => nI (TA zz)), (fun zz => nI (TH zz)), aa) (xSet r.toNatClampNeg) (lN (17179869184 + o)) 1 1 v))))) ∧ (¬ xPk r.toNatClampNeg = 2 → wX_putValue_95 post (nI k) v strict (nI o) r (nI n) (nI d) (nI b) deep res thr thn (fun zz => nI (CL zz)) cStr cOp cA cB (fun zz => nI (OK zz)) oKin oOpen xFc xFs xPc xKo xPk (fun zz => ob_xa (tw zz) (te zz) (tc zz)) pVal xSet (fun zz => nI (S zz)) aOut aVar (fun zz => nI (FC zz)) (fun zz => nI (FP zz)) (fun zz => nI (FA zz)) (fun zz => nI (FH zz)) (fun zz => nI (XH zz)) (fun zz => nI (FT zz)) fSelf xHeld stk (fun zz => nI (TA zz)) (fun zz => nI (TH zz)) xArg))))) → wpX_putValue post (nI n, nI d, nI b, deep, res, thr, thn, (fun zz => nI (CL zz)), cStr, cOp, cA, cB, (fun zz => nI (OK zz)), oKin, oOpen, xFc, xFs, xPc, xKo, xPk, (fun zz => ob_xa (tw zz) (te zz) (tc zz)), pVal, xSet, (fun zz => nI (S zz)), aOut, aVar, (fun zz => nI (FC zz)), (fun zz => nI (FP zz)), (fun zz => nI (FA zz)), (fun zz => nI (FH zz)), (fun zz => nI (XH zz)), (fun zz => nI (FT zz)), fSelf, xHeld, stk, (fun zz => nI (TA zz)), (fun zz => nI (TH zz)), xArg) (lN (17179869184 + o)) (nI k) v strict := by
    intro post h
    unfold wpX_putValue
    exact br_f hU (br_f hN (ob_objO hn ho _ (hXl _ h)))
  rcases hr with rfl | ⟨q, hq, hM, rfl⟩
  · refine hgrow (-1) (Or.inl (by decide)) (fun post hp => hX0 post (br_t (by decide) ?_)) (fun post hp => hY33 post ?_)
    · unfold wX_putValue_95 wX_putValue_116 wX_putValue_117
      exact br_t (by decide) (br_t (by decide) hp)
    · unfold wY_store_33
      refine br_t (by decide) ?_
      unfold wY_store_57 wY_store_58
      exact br_f hoo (br_t (by decide) hp)
  · have hi : 32 * q + k < 1024 := by omega
    have hin : vp_in (nI (32 * q + k)) 1024 := vp_in_nI hi (by decide)
    have hcl : (nI (32 * q + k)).toNatClampNeg = 32 * q + k := ob_cl hi
    have hrr : ¬ nI (32 * q + k) < 0 := nI_pos (by omega)
    have hdv : nI (32 * q + k) / 32 = nI q := by
      have e := pk_div (a := 32 * q + k) (d := 32) (by omega) (by decide) (by decide)
      rw [show (32 * q + k) / 32 = q from by omega] at e
      exact e
    have h32 : ¬ (32 : Int32) = 0 := by decide
    have heq : (nI (32 * q + k) = nI o * 32 + nI k) = (q = o) := by
      rw [ob_ix, ob_eqn (by omega) (by omega)]
      exact propext ⟨fun z => by omega, fun z => by rw [z]⟩
    have heqd : (nI q = nI o) = (q = o) := ob_eqn (by omega) (by omega)
    /- what the reference does first: is it its own? -/
    have hY58 : ∀ post : SY → Prop, (q = o → wY_store_58 post (lN (17179869184 + o)) (nI k) v strict (nI o) (nI (32 * q + k)) 0 1 (nI n) (nI m) yGiven (nI d) deep (nI b) thr thn res cStr (fun zz => nI (CL zz)) cOp cA cB (fun zz => nI (OK zz)) oKin yCo yAr oOpen (fun zz => nI (M zz)) (fun zz => ob_yf (tw zz) (te zz) (tc zz)) yPair ySeen pVal ySet (fun zz => ob_th (S zz)) yStay aOut aVar yArg (fun zz => nI (FC zz)) (fun zz => nI (FA zz)) (fun zz => nI (FP zz)) (fun zz => nI (FH zz)) yHan (fun zz => nI (FT zz)) (fun zz => nI (TA zz)) (fun zz => nI (TH zz)) fSelf yKept stk) → (¬ q = o → wY_store_58 post (lN (17179869184 + o)) (nI k) v strict (nI o) (nI (32 * q + k)) 0 0 (nI n) (nI m) yGiven (nI d) deep (nI b) thr thn res cStr (fun zz => nI (CL zz)) cOp cA cB (fun zz => nI (OK zz)) oKin yCo yAr oOpen (fun zz => nI (M zz)) (fun zz => ob_yf (tw zz) (te zz) (tc zz)) yPair ySeen pVal ySet (fun zz => ob_th (S zz)) yStay aOut aVar yArg (fun zz => nI (FC zz)) (fun zz => nI (FA zz)) (fun zz => nI (FP zz)) (fun zz => nI (FH zz)) yHan (fun zz => nI (FT zz)) (fun zz => nI (TA zz)) (fun zz => nI (TH zz)) fSelf yKept stk) → wpY_store post (nI n, nI m, yGiven, nI d, deep, nI b, thr, thn, res, cStr, (fun zz => nI (CL zz)), cOp, cA, cB, (fun zz => nI (OK zz)), oKin, yCo, yAr, oOpen, (fun zz => nI (M zz)), (fun zz => ob_yf (tw zz) (te zz) (tc zz)), yPair, ySeen, pVal, ySet, (fun zz => ob_th (S zz)), yStay, aOut, aVar, yArg, (fun zz => nI (FC zz)), (fun zz => nI (FA zz)), (fun zz => nI (FP zz)), (fun zz => nI (FH zz)), yHan, (fun zz => nI (FT zz)), (fun zz => nI (TA zz)), (fun zz => nI (TH zz)), fSelf, yKept, stk) (lN (17179869184 + o)) (nI k) v strict := by
      intro post h1 h2
      refine hY33 post ?_
      unfold wY_store_33
      refine br_f hrr ⟨h32, ?_⟩
      rw [hdv, heqd]
      exact br_c h1 h2
    have hs := R.2.2.1.2.2 (32 * q + k) (by omega)
    rcases hs with ⟨h0, _⟩ | ⟨_, hvv, hs⟩
    · exact absurd h0 hM
    /- read only -/
    have hro : tw (32 * q + k) = false → (¬ (xPk (32 * q + k) = 2 ∧ ¬ xSet (32 * q + k) = 8589934592)) → (¬ yPair (32 * q + k) = 0 → ySet (32 * q + k) = 8589934592) → ∃ u' v', ob_S b B (w + 4) u' v' ∧ (∀ post : SX → Prop, post u' → wpX_putValue post (nI n, nI d, nI b, deep, res, thr, thn, (fun zz => nI (CL zz)), cStr, cOp, cA, cB, (fun zz => nI (OK zz)), oKin, oOpen, xFc, xFs, xPc, xKo, xPk, (fun zz => ob_xa (tw zz) (te zz) (tc zz)), pVal, xSet, (fun zz => nI (S zz)), aOut, aVar, (fun zz => nI (FC zz)), (fun zz => nI (FP zz)), (fun zz => nI (FA zz)), (fun zz => nI (FH zz)), (fun zz => nI (XH zz)), (fun zz => nI (FT zz)), fSelf, xHeld, stk, (fun zz => nI (TA zz)), (fun zz => nI (TH zz)), xArg) (lN (17179869184 + o)) (nI k) v strict) ∧ (∀ post : SY → Prop, post v' → wpY_store post (nI n, nI m, yGiven, nI d, deep, nI b, thr, thn, res, cStr, (fun zz => nI (CL zz)), cOp, cA, cB, (fun zz => nI (OK zz)), oKin, yCo, yAr, oOpen, (fun zz => nI (M zz)), (fun zz => ob_yf (tw zz) (te zz) (tc zz)), yPair, ySeen, pVal, ySet, (fun zz => ob_th (S zz)), yStay, aOut, aVar, yArg, (fun zz => nI (FC zz)), (fun zz => nI (FA zz)), (fun zz => nI (FP zz)), (fun zz => nI (FH zz)), yHan, (fun zz => nI (FT zz)), (fun zz => nI (TA zz)), (fun zz => nI (TH zz)), fSelf, yKept, stk) (lN (17179869184 + o)) (nI k) v strict) := by
      intro htw hnx hny
      refine hno (fun post hp => hX0 post (br_f hrr ⟨hin, ?_⟩)) (fun post hp => ?_)
      · have h95 : wX_putValue_95 post (nI k) v strict (nI o) (nI (32 * q + k)) (nI n) (nI d) (nI b) deep res thr thn (fun zz => nI (CL zz)) cStr cOp cA cB (fun zz => nI (OK zz)) oKin oOpen xFc xFs xPc xKo xPk (fun zz => ob_xa (tw zz) (te zz) (tc zz)) pVal xSet (fun zz => nI (S zz)) aOut aVar (fun zz => nI (FC zz)) (fun zz => nI (FP zz)) (fun zz => nI (FA zz)) (fun zz => nI (FH zz)) (fun zz => nI (XH zz)) (fun zz => nI (FT zz)) fSelf xHeld stk (fun zz => nI (TA zz)) (fun zz => nI (TH zz)) xArg := by
          unfold wX_putValue_95
          refine br_f hrr ⟨hin, ?_⟩
          rw [hcl]
          refine br_t ((ob_xaW _ _ _).mpr htw) ?_
          have h141 : ∀ z0 : Int32, wX_putValue_141 post (nI k) v strict (nI o) 1 z0 (nI n) (nI d) (nI b) deep res thr thn (fun zz => nI (CL zz)) cStr cOp cA cB (fun zz => nI (OK zz)) oKin oOpen xFc xFs xPc xKo xPk (fun zz => ob_xa (tw zz) (te zz) (tc zz)) pVal xSet (fun zz => nI (S zz)) aOut aVar (fun zz => nI (FC zz)) (fun zz => nI (FP zz)) (fun zz => nI (FA zz)) (fun zz => nI (FH zz)) (fun zz => nI (XH zz)) (fun zz => nI (FT zz)) fSelf xHeld stk (fun zz => nI (TA zz)) (fun zz => nI (TH zz)) xArg := by
            intro z0
            unfold wX_putValue_141
            exact br_f hoo (br_f (by decide) hp)
          unfold wX_putValue_117
          exact br_f hrr (br_c (fun _ => h141 1) (fun _ => h141 0))
        rw [hcl]
        refine br_c (fun h2 => ⟨hin, br_c (fun _ => h95) (fun h3 => absurd ⟨h2, h3⟩ hnx)⟩) (fun _ => h95)
      · have h111 : ∀ x10 : Int32, wY_store_111 post (lN (17179869184 + o)) (nI k) v strict (nI o) (nI (32 * q + k)) 0 x10 (nI n) (nI m) yGiven (nI d) deep (nI b) thr thn res cStr (fun zz => nI (CL zz)) cOp cA cB (fun zz => nI (OK zz)) oKin yCo yAr oOpen (fun zz => nI (M zz)) (fun zz => ob_yf (tw zz) (te zz) (tc zz)) yPair ySeen pVal ySet (fun zz => ob_th (S zz)) yStay aOut aVar yArg (fun zz => nI (FC zz)) (fun zz => nI (FA zz)) (fun zz => nI (FP zz)) (fun zz => nI (FH zz)) yHan (fun zz => nI (FT zz)) (fun zz => nI (TA zz)) (fun zz => nI (TH zz)) fSelf yKept stk := by
          intro x10
          unfold wY_store_111 wY_store_112
          refine nm_e (br_t rfl ?_)
          unfold wY_store_157
          refine br_f hU (br_f hN (br_f hrr ⟨hin, ?_⟩))
          rw [hcl]
          exact br_c (fun _ => hp) (fun hne => br_t rfl ⟨hin, br_t (hny hne) hp⟩)
        have h58 : ∀ x10 : Int32, wY_store_58 post (lN (17179869184 + o)) (nI k) v strict (nI o) (nI (32 * q + k)) 0 x10 (nI n) (nI m) yGiven (nI d) deep (nI b) thr thn res cStr (fun zz => nI (CL zz)) cOp cA cB (fun zz => nI (OK zz)) oKin yCo yAr oOpen (fun zz => nI (M zz)) (fun zz => ob_yf (tw zz) (te zz) (tc zz)) yPair ySeen pVal ySet (fun zz => ob_th (S zz)) yStay aOut aVar yArg (fun zz => nI (FC zz)) (fun zz => nI (FA zz)) (fun zz => nI (FP zz)) (fun zz => nI (FH zz)) yHan (fun zz => nI (FT zz)) (fun zz => nI (TA zz)) (fun zz => nI (TH zz)) fSelf yKept stk := by
          intro x10
          unfold wY_store_58
          refine br_f hoo (br_f hrr ⟨hin, ?_⟩)
          rw [hcl]
          refine br_c (fun _ => ⟨hin, br_t ((ob_yfW _ _ _).mpr htw) (h111 x10)⟩) (fun _ => h111 x10)
        exact hY58 post (fun _ => h58 1) (fun _ => h58 0)
    rcases hs with ⟨hpr, hpk⟩ | ⟨hpr, hpk, htw, hxy, hvs⟩
    · have hpk2 : ¬ xPk (32 * q + k) = 2 := by rw [hpk]; decide
      cases htw : tw (32 * q + k)
      · exact hro htw (fun z => hpk2 z.1) (fun z => absurd hpr z)
      · have hX116 : ∀ post : SX → Prop, wX_putValue_116 post (nI k) v strict (nI o) (nI (32 * q + k)) (nI n) (nI d) (nI b) deep res thr thn (fun zz => nI (CL zz)) cStr cOp cA cB (fun zz => nI (OK zz)) oKin oOpen xFc xFs xPc xKo xPk (fun zz => ob_xa (tw zz) (te zz) (tc zz)) pVal xSet (fun zz => nI (S zz)) aOut aVar (fun zz => nI (FC zz)) (fun zz => nI (FP zz)) (fun zz => nI (FA zz)) (fun zz => nI (FH zz)) (fun zz => nI (XH zz)) (fun zz => nI (FT zz)) fSelf xHeld stk (fun zz => nI (TA zz)) (fun zz => nI (TH zz)) xArg → wpX_putValue post (nI n, nI d, nI b, deep, res, thr, thn, (fun zz => nI (CL zz)), cStr, cOp, cA, cB, (fun zz => nI (OK zz)), oKin, oOpen, xFc, xFs, xPc, xKo, xPk, (fun zz => ob_xa (tw zz) (te zz) (tc zz)), pVal, xSet, (fun zz => nI (S zz)), aOut, aVar, (fun zz => nI (FC zz)), (fun zz => nI (FP zz)), (fun zz => nI (FA zz)), (fun zz => nI (FH zz)), (fun zz => nI (XH zz)), (fun zz => nI (FT zz)), fSelf, xHeld, stk, (fun zz => nI (TA zz)), (fun zz => nI (TH zz)), xArg) (lN (17179869184 + o)) (nI k) v strict := by
          intro post hp
          refine hX0 post (br_f hrr ⟨hin, ?_⟩)
          rw [hcl]
          refine br_f hpk2 ?_
          unfold wX_putValue_95
          refine br_f hrr ⟨hin, ?_⟩
          rw [hcl]
          exact br_f (fun z => absurd (htw.symm.trans ((ob_xaW _ _ _).mp z)) (by decide)) hp
        have hY92 : ∀ (post : SY → Prop) (x10 : Int32), wY_store_92 post (lN (17179869184 + o)) (nI k) v strict (nI o) (nI (32 * q + k)) 0 x10 (nI n) (nI m) yGiven (nI d) deep (nI b) thr thn res cStr (fun zz => nI (CL zz)) cOp cA cB (fun zz => nI (OK zz)) oKin yCo yAr oOpen (fun zz => nI (M zz)) (fun zz => ob_yf (tw zz) (te zz) (tc zz)) yPair ySeen pVal ySet (fun zz => ob_th (S zz)) yStay aOut aVar yArg (fun zz => nI (FC zz)) (fun zz => nI (FA zz)) (fun zz => nI (FP zz)) (fun zz => nI (FH zz)) yHan (fun zz => nI (FT zz)) (fun zz => nI (TA zz)) (fun zz => nI (TH zz)) fSelf yKept stk → wY_store_58 post (lN (17179869184 + o)) (nI k) v strict (nI o) (nI (32 * q + k)) 0 x10 (nI n) (nI m) yGiven (nI d) deep (nI b) thr thn res cStr (fun zz => nI (CL zz)) cOp cA cB (fun zz => nI (OK zz)) oKin yCo yAr oOpen (fun zz => nI (M zz)) (fun zz => ob_yf (tw zz) (te zz) (tc zz)) yPair ySeen pVal ySet (fun zz => ob_th (S zz)) yStay aOut aVar yArg (fun zz => nI (FC zz)) (fun zz => nI (FA zz)) (fun zz => nI (FP zz)) (fun zz => nI (FH zz)) yHan (fun zz => nI (FT zz)) (fun zz => nI (TA zz)) (fun zz => nI (TH zz)) fSelf yKept stk := by
          intro post x10 hp
          unfold wY_store_58
          refine br_f hoo (br_f hrr ⟨hin, ?_⟩)
          rw [hcl]
          refine br_t hpr ⟨hin, br_f (fun z => absurd (htw.symm.trans ((ob_yfW _ _ _).mp z)) (by decide)) hp⟩
        by_cases hqo : q = o
        · refine hdef true (nI (32 * q + k)) (Or.inr hin) (fun post hp => hX116 post ?_) (fun post hp => hY58 post (fun _ => hY92 post 1 ?_) (fun z => absurd hqo z))
          · unfold wX_putValue_116 wX_putValue_117
            refine br_f hrr ?_
            rw [heq]
            refine br_t hqo ?_
            unfold wX_putValue_141
            refine br_f hoo (br_t rfl (br_f (by decide) ?_))
            unfold wX_putValue_171
            exact br_f (by decide) hp
          · unfold wY_store_92
            refine br_f (by decide) ?_
            unfold wY_store_107 wY_store_112
            exact nm_e (br_f (by decide) (br_f (by decide) hp))
        · refine hgrow (nI (32 * q + k)) (Or.inr ⟨hin, by rw [hcl]; exact hpr⟩) (fun post hp => hX116 post ?_) (fun post hp => hY58 post (fun z => absurd z hqo) (fun _ => hY92 post 0 hp))
          unfold wX_putValue_116 wX_putValue_117
          refine br_f hrr ?_
          rw [heq]
          exact br_f hqo hp
    · have hp1 : ¬ yPair (32 * q + k) = 0 := by rw [hpr]; decide
      by_cases hset : ySet (32 * q + k) = 8589934592
      · exact hro htw (fun z => z.2 (hxy.trans hset)) (fun _ => hset)
      · obtain ⟨d', deep', thr', thn', S', aOut', aVar', FC', FA', FP', FH', FT', fSelf', XH', yHan', xHeld', yKept', yStay', R2, hw2, hXe, hYe⟩ := ob_enter (self := lN (17179869184 + o)) (held := v) (kept := v) (c := 1) (t := 1) (deep := deep) (cStr := cStr) (oOpen := oOpen) (te := te) (xArg := (vp_updL xArg 0 v)) (ySeen := ySeen) (yArg := (vp_updL yArg 0 v)) R hres hvs hb (by decide) (fun _ => ⟨rfl, hv⟩) (by decide) (fun j hj => by
          have : j = 0 := by omega
          subst this
          exact ⟨rfl, hv⟩)
        refine ⟨_, _, ob_S_mk (deep := deep') (cStr := cStr) (oOpen := oOpen) (te := te) (xArg := (vp_updL xArg 0 v)) (ySeen := ySeen) (yArg := (vp_updL yArg 0 v)) (yGiven := (nI 1)) R2 (by omega : m ≤ B) (by omega), fun post hp => hX0 post (br_f hrr ⟨hin, ?_⟩), fun post hp => ?_⟩
        · rw [hcl, hxy]
          refine br_t hpk ⟨hin, br_f hset (nm_e ⟨hin, ?_⟩)⟩
          exact hXe _ hp
        · have h58 : ∀ x10 : Int32, wY_store_58 post (lN (17179869184 + o)) (nI k) v strict (nI o) (nI (32 * q + k)) 0 x10 (nI n) (nI m) yGiven (nI d) deep (nI b) thr thn res cStr (fun zz => nI (CL zz)) cOp cA cB (fun zz => nI (OK zz)) oKin yCo yAr oOpen (fun zz => nI (M zz)) (fun zz => ob_yf (tw zz) (te zz) (tc zz)) yPair ySeen pVal ySet (fun zz => ob_th (S zz)) yStay aOut aVar yArg (fun zz => nI (FC zz)) (fun zz => nI (FA zz)) (fun zz => nI (FP zz)) (fun zz => nI (FH zz)) yHan (fun zz => nI (FT zz)) (fun zz => nI (TA zz)) (fun zz => nI (TH zz)) fSelf yKept stk := by
            intro x10
            unfold wY_store_58
            refine br_f hoo (br_f hrr ⟨hin, ?_⟩)
            rw [hcl]
            refine br_f hp1 ?_
            unfold wY_store_111 wY_store_112
            refine nm_e (br_t rfl ?_)
            unfold wY_store_157
            refine br_f hU (br_f hN (br_f hrr ⟨hin, ?_⟩))
            rw [hcl]
            refine br_f hp1 (br_t rfl ⟨hin, br_f hset ⟨hin, ?_⟩⟩)
            exact hYe _ hp
          exact hY58 post (fun _ => h58 1) (fun _ => h58 0)
end
