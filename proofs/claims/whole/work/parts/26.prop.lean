/-! ===== the instructions 8 to 13 ===== -/
theorem ob_key {z : Int64} (h0 : ¬ z < 0) (h : z < 32) : ∃ k, k < 32 ∧ z = lN k := by
  obtain ⟨k, hk, rfl⟩ := pk_lOf h0
  exact ⟨k, (pk_lLT (b := 32) hk (by decide)).mp h, rfl⟩
theorem ob_31 {z : Int64} : z ≤ 31 ↔ z < 32 := by
  rw [ob_Tle, ob_Tlt, show (31 : Int64).toInt = 31 from by decide, show (32 : Int64).toInt = 32 from by decide]
  omega
section
variable {n : Nat} {d : Nat} {b : Nat} {m : Nat} {deep : Int32} {res : Int64} {thr : Int32} {thn : Int64} {CL : Nat → Nat} {cStr : Nat → Int32} {cOp : Nat → Int32} {cA : Nat → Int32} {cB : Nat → Int32} {OK : Nat → Nat} {oKin : Nat → Int32} {oOpen : Nat → Int32} {pVal : Nat → Int64} {aOut : Nat → Int32} {aVar : Nat → Int64} {FC : Nat → Nat} {FA : Nat → Nat} {FP : Nat → Nat} {FH : Nat → Nat} {FT : Nat → Nat} {fSelf : Nat → Int64} {stk : Nat → Int64} {TA : Nat → Nat} {TH : Nat → Nat} {xFc : Nat → Int32} {xFs : Nat → Int32} {xPc : Nat → Int32} {xKo : Nat → Int32} {xPk : Nat → Int32} {tw : Nat → Bool} {te : Nat → Bool} {tc : Nat → Bool} {xSet : Nat → Int64} {S : Nat → Nat} {XH : Nat → Nat} {xHeld : Nat → Int64} {xArg : Nat → Int64} {yCo : Nat → Int32} {yAr : Nat → Int32} {M : Nat → Nat} {yPair : Nat → Int32} {ySeen : Nat → Int32} {ySet : Nat → Int64} {yStay : Nat → Int32} {yArg : Nat → Int64} {yHan : Nat → Int32} {yKept : Nat → Int64} {yGiven : Int32}
variable {e k B w : Nat} {vx vy v : Int64} {strict x1 : Int32}
theorem ob_resU (R : ob_R n (e+1) b m res thr thn CL cOp cA cB OK oKin pVal aOut aVar FC FA FP FH FT fSelf stk TA TH xFc xFs xPc xKo xPk tw tc xSet S XH xHeld yCo yAr M yPair ySet yStay yHan yKept) : res = 8589934592 := R.2.2.2.2.2.2.2.2.2 (Nat.succ_ne_zero e)
theorem ob_S_up {b B w w' : Nat} {u : SX} {v : SY} (h : ob_S b B w u v) (hw : w ≤ w') : ob_S b B w' u v := by
  obtain ⟨n, d, m, deep, res, thr, thn, CL, cStr, cOp, cA, cB, OK, oKin, oOpen, pVal, aOut, aVar, FC, FA, FP, FH, FT, fSelf, stk, TA, TH, xFc, xFs, xPc, xKo, xPk, tw, te, tc, xSet, S, XH, xHeld, xArg, yCo, yAr, M, yPair, ySeen, ySet, yStay, yArg, yHan, yKept, yGiven, h1, h2, h3, h4, h5⟩ := h
  exact ⟨n, d, m, deep, res, thr, thn, CL, cStr, cOp, cA, cB, OK, oKin, oOpen, pVal, aOut, aVar, FC, FA, FP, FH, FT, fSelf, stk, TA, TH, xFc, xFs, xPc, xKo, xPk, tw, te, tc, xSet, S, XH, xHeld, xArg, yCo, yAr, M, yPair, ySeen, ySet, yStay, yArg, yHan, yKept, yGiven, h1, h2, h3, h4, by omega⟩
theorem ob_whX {z : Int32} (hz : z = 0 ∨ z = 1) (post : SX → Prop) (hp : wpX_push post (nI n, nI d, nI b, deep, res, thr, thn, (fun zz => nI (CL zz)), cStr, cOp, cA, cB, (fun zz => nI (OK zz)), oKin, oOpen, xFc, xFs, xPc, xKo, xPk, (fun zz => ob_xa (tw zz) (te zz) (tc zz)), pVal, xSet, (fun zz => nI (S zz)), aOut, aVar, (fun zz => nI (FC zz)), (fun zz => nI (FP zz)), (fun zz => nI (FA zz)), (fun zz => nI (FH zz)), (fun zz => nI (XH zz)), (fun zz => nI (FT zz)), fSelf, xHeld, stk, (fun zz => nI (TA zz)), (fun zz => nI (TH zz)), xArg) (if z = 0 then 8589934594 else 8589934595)) : wpX_pushWhether post (nI n, nI d, nI b, deep, res, thr, thn, (fun zz => nI (CL zz)), cStr, cOp, cA, cB, (fun zz => nI (OK zz)), oKin, oOpen, xFc, xFs, xPc, xKo, xPk, (fun zz => ob_xa (tw zz) (te zz) (tc zz)), pVal, xSet, (fun zz => nI (S zz)), aOut, aVar, (fun zz => nI (FC zz)), (fun zz => nI (FP zz)), (fun zz => nI (FA zz)), (fun zz => nI (FH zz)), (fun zz => nI (XH zz)), (fun zz => nI (FT zz)), fSelf, xHeld, stk, (fun zz => nI (TA zz)), (fun zz => nI (TH zz)), xArg) z := by
  unfold wpX_pushWhether wX_pushWhether_14
  rcases hz with rfl | rfl
  · exact br_t rfl hp
  · exact br_f (by decide) hp
theorem ob_whY {z : Int32} (hz : z = 0 ∨ z = 1) (post : Int64 → Prop) (hp : post (if z = 0 then 8589934594 else 8589934595)) : wpY_truth post z := by
  unfold wpY_truth
  rcases hz with rfl | rfl
  · exact br_t rfl hp
  · exact br_f (by decide) hp
theorem ob_V_w (n : Nat) (z : Int32) : ob_V n (if z = 0 then 8589934594 else 8589934595) := by
  split
  · exact ob_V_F n
  · exact ob_V_T n
theorem ob_pg (R : ob_R n (e+1) b m res thr thn CL cOp cA cB OK oKin pVal aOut aVar FC FA FP FH FT fSelf stk TA TH xFc xFs xPc xKo xPk tw tc xSet S XH xHeld yCo yAr M yPair ySet yStay yHan yKept) (hm : m + 1 ≤ B) (hB : B < 2 ^ 31) (hw : 4 * (e + 1) + ob_hs XH (e + 1) ≤ w) (hk : k < 32) (puts : Bool) (hx : puts = false ∧ (x1 = 8 ∨ x1 = 10) ∨ puts = true ∧ (x1 = 9 ∨ x1 = 11)) (hv : puts = true → vx = vy ∧ ob_V n vy) :
    ∃ u' v', ob_S b B (w + 4) u' v' ∧ (∀ post : SX → Prop, post u' → wX_propertyOp_90 post x1 strict (nI k) vx (nI n) (nI (e+1)) (nI b) deep res thr thn (fun zz => nI (CL zz)) cStr cOp cA cB (fun zz => nI (OK zz)) oKin oOpen xFc xFs xPc xKo xPk (fun zz => ob_xa (tw zz) (te zz) (tc zz)) pVal xSet (fun zz => nI (S zz)) aOut aVar (fun zz => nI (FC zz)) (fun zz => nI (FP zz)) (fun zz => nI (FA zz)) (fun zz => nI (FH zz)) (fun zz => nI (XH zz)) (fun zz => nI (FT zz)) fSelf xHeld stk (fun zz => nI (TA zz)) (fun zz => nI (TH zz)) xArg) ∧ (∀ post : SY → Prop, post v' → wY_reach_60 post (ob_01 puts) strict vy (lN k) (nI n) (nI m) yGiven (nI (e+1)) deep (nI b) thr thn res cStr (fun zz => nI (CL zz)) cOp cA cB (fun zz => nI (OK zz)) oKin yCo yAr oOpen (fun zz => nI (M zz)) (fun zz => ob_yf (tw zz) (te zz) (tc zz)) yPair ySeen pVal ySet (fun zz => ob_th (S zz)) yStay aOut aVar yArg (fun zz => nI (FC zz)) (fun zz => nI (FA zz)) (fun zz => nI (FP zz)) (fun zz => nI (FH zz)) yHan (fun zz => nI (FT zz)) (fun zz => nI (TA zz)) (fun zz => nI (TH zz)) fSelf yKept stk) := by
  obtain ⟨r, FH', R1, hVr, hH, hX1, hY1⟩ := ob_pop (deep := deep) (cStr := cStr) (oOpen := oOpen) (te := te) (xArg := xArg) (ySeen := ySeen) (yArg := yArg) (yGiven := yGiven) R
  have hres := ob_resU R1
  have hk0 : ¬ lN k < 0 := by
    rw [show (0 : Int64) = lN 0 from rfl, pk_lLT (by omega) (by omega)]
    omega
  have hk31 : lN k ≤ 31 := by
    rw [ob_31, show (32 : Int64) = lN 32 from rfl, pk_lLT (by omega) (by omega)]
    exact hk
  rcases hx with ⟨rfl, hx⟩ | ⟨rfl, hx⟩
  · obtain ⟨u', v', hS, hXf, hYf⟩ := ob_fetch (deep := deep) (cStr := cStr) (oOpen := oOpen) (te := te) (xArg := xArg) (ySeen := ySeen) (yArg := yArg) (yGiven := yGiven) (B := B) (w := w) R1 hres hVr hk (by omega) hB hw
    refine ⟨u', v', hS, fun post hp => ?_, fun post hp => ?_⟩
    · unfold wX_propertyOp_90
      refine hX1 _ ?_
      unfold wX_propertyOp_108
      rcases hx with rfl | rfl
      · exact br_t rfl (hXf _ hp)
      · exact br_f (by decide) (br_t rfl (hXf _ hp))
    · unfold wY_reach_60
      refine br_f hk0 (br_t hk31 (hY1 _ ?_))
      rw [lN_i]
      exact br_t rfl (hYf _ hp)
  · obtain ⟨rfl, hvy⟩ := hv rfl
    obtain ⟨u', v', hS, hXf, hYf⟩ := ob_putv (deep := deep) (cStr := cStr) (oOpen := oOpen) (te := te) (xArg := xArg) (ySeen := ySeen) (yArg := yArg) (yGiven := yGiven) (strict := strict) (B := B) (w := w) R1 hres hVr hvy hk (by omega) hB hw
    refine ⟨u', v', hS, fun post hp => ?_, fun post hp => ?_⟩
    · unfold wX_propertyOp_90
      refine hX1 _ ?_
      unfold wX_propertyOp_131
      rcases hx with rfl | rfl
      · exact br_f (by decide) (br_f (by decide) (br_t rfl (hXf _ hp)))
      · exact br_f (by decide) (br_f (by decide) (br_f (by decide) (br_t rfl (hXf _ hp))))
    · unfold wY_reach_60
      refine br_f hk0 (br_t hk31 (hY1 _ ?_))
      rw [lN_i]
      exact br_f (by decide) (hYf _ hp)
/-- GETAT and PUTAT: the key is popped -/
theorem ob_pgat (R : ob_R n (e+1) b m res thr thn CL cOp cA cB OK oKin pVal aOut aVar FC FA FP FH FT fSelf stk TA TH xFc xFs xPc xKo xPk tw tc xSet S XH xHeld yCo yAr M yPair ySet yStay yHan yKept) (hm : m + 1 ≤ B) (hB : B < 2 ^ 31) (hw : 4 * (e + 1) + ob_hs XH (e + 1) ≤ w) (puts : Bool) (hx : puts = false ∧ x1 = 10 ∨ puts = true ∧ x1 = 11) (hv : puts = true → vx = vy ∧ ob_V n vy) :
    ∃ u' v', ob_S b B (w + 4) u' v' ∧ (∀ post : SX → Prop, post u' → wX_propertyOp_55 post x1 strict vx (nI n) (nI (e+1)) (nI b) deep res thr thn (fun zz => nI (CL zz)) cStr cOp cA cB (fun zz => nI (OK zz)) oKin oOpen xFc xFs xPc xKo xPk (fun zz => ob_xa (tw zz) (te zz) (tc zz)) pVal xSet (fun zz => nI (S zz)) aOut aVar (fun zz => nI (FC zz)) (fun zz => nI (FP zz)) (fun zz => nI (FA zz)) (fun zz => nI (FH zz)) (fun zz => nI (XH zz)) (fun zz => nI (FT zz)) fSelf xHeld stk (fun zz => nI (TA zz)) (fun zz => nI (TH zz)) xArg) ∧ (∀ (post : SY → Prop) (z0 : Int32), post v' → wpY_pop (fun r_179 u => match u with | (pf_objects, pf_moment, pf_given, pf_depth, pf_deepest, pf_begun, pf_throwing, pf_thrown, pf_result, pa_strict, pa_length, pa_ops, pa_as, pa_bs, pa_kind, pa_kin, pa_codeOf, pa_around, pa_open, pa_made, pa_flags, pa_pair, pa_seen, pa_value, pa_setter, pa_there, pa_stays, pa_outer, pa_variables, pa_arguments, pa_code, pa_activation, pa_at, pa_high, pa_handlers, pa_then, pa_tryAt, pa_tryHigh, pa_self, pa_kept, pa_stack) => (wY_reach_60 post (ob_01 puts) strict vy r_179 pf_objects pf_moment pf_given pf_depth pf_deepest pf_begun pf_throwing pf_thrown pf_result pa_strict pa_length pa_ops pa_as pa_bs pa_kind pa_kin pa_codeOf pa_around pa_open pa_made pa_flags pa_pair pa_seen pa_value pa_setter pa_there pa_stays pa_outer pa_variables pa_arguments pa_code pa_activation pa_at pa_high pa_handlers pa_then pa_tryAt pa_tryHigh pa_self pa_kept pa_stack)) (nI n, nI m, yGiven, nI (e+1), deep, nI b, thr, thn, res, cStr, (fun zz => nI (CL zz)), cOp, cA, cB, (fun zz => nI (OK zz)), oKin, yCo, yAr, oOpen, (fun zz => nI (M zz)), (fun zz => ob_yf (tw zz) (te zz) (tc zz)), yPair, ySeen, pVal, ySet, (fun zz => ob_th (S zz)), yStay, aOut, aVar, yArg, (fun zz => nI (FC zz)), (fun zz => nI (FA zz)), (fun zz => nI (FP zz)), (fun zz => nI (FH zz)), yHan, (fun zz => nI (FT zz)), (fun zz => nI (TA zz)), (fun zz => nI (TH zz)), fSelf, yKept, stk)) := by
  obtain ⟨r, FH', R1, hVr, hH, hX1, hY1⟩ := ob_pop (deep := deep) (cStr := cStr) (oOpen := oOpen) (te := te) (xArg := xArg) (ySeen := ySeen) (yArg := yArg) (yGiven := yGiven) R
  by_cases hin : ¬ r < 0 ∧ r < 32
  · obtain ⟨k, hk, rfl⟩ := ob_key hin.1 hin.2
    obtain ⟨u', v', hS, hXf, hYf⟩ := ob_pg (deep := deep) (cStr := cStr) (oOpen := oOpen) (te := te) (xArg := xArg) (ySeen := ySeen) (yArg := yArg) (yGiven := yGiven) (x1 := x1) (strict := strict) (vx := vx) (vy := vy) R1 hm hB hw hk puts (by
      rcases hx with ⟨h1, h2⟩ | ⟨h1, h2⟩
      · exact Or.inl ⟨h1, Or.inr h2⟩
      · exact Or.inr ⟨h1, Or.inr h2⟩) hv
    refine ⟨u', v', hS, fun post hp => ?_, fun post _ hp => ?_⟩
    · unfold wX_propertyOp_55
      refine hX1 _ (br_f hin.1 (br_t hin.2 ?_))
      rw [lN_i]
      exact hXf _ hp
    · exact hY1 _ (hYf _ hp)
  · refine ⟨_, _, ob_S_mk (deep := deep) (cStr := cStr) (oOpen := oOpen) (te := te) (xArg := xArg) (ySeen := ySeen) (yArg := yArg) (yGiven := yGiven) (ob_raise R1 (ob_V_Ty n)) (by omega : m ≤ B) (by omega), fun post hp => ?_, fun post _ hp => ?_⟩
    · unfold wX_propertyOp_55 wX_propertyOp_77
      refine hX1 _ ?_
      by_cases h0 : r < 0
      · exact br_t h0 hp
      · exact br_f h0 (br_f (fun z => hin ⟨h0, z⟩) hp)
    · refine hY1 _ ?_
      unfold wY_reach_60 wY_reach_78
      by_cases h0 : r < 0
      · exact br_t h0 hp
      · exact br_f h0 (br_f (fun z => hin ⟨h0, ob_31.mp z⟩) hp)
end
