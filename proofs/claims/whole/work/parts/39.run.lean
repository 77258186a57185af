/-! ===== a run to its end ===== -/
/-- no frame is left -/
def ob_E (B : Nat) (u : SX) (v : SY) : Prop :=
  ∃ (n : Nat) (b : Nat) (m : Nat) (deep : Int32) (res : Int64) (thr : Int32) (thn : Int64) (CL : Nat → Nat) (cStr : Nat → Int32) (cOp : Nat → Int32) (cA : Nat → Int32) (cB : Nat → Int32) (OK : Nat → Nat) (oKin : Nat → Int32) (oOpen : Nat → Int32) (pVal : Nat → Int64) (aOut : Nat → Int32) (aVar : Nat → Int64) (FC : Nat → Nat) (FA : Nat → Nat) (FP : Nat → Nat) (FH : Nat → Nat) (FT : Nat → Nat) (fSelf : Nat → Int64) (stk : Nat → Int64) (TA : Nat → Nat) (TH : Nat → Nat) (xFc : Nat → Int32) (xFs : Nat → Int32) (xPc : Nat → Int32) (xKo : Nat → Int32) (xPk : Nat → Int32) (tw : Nat → Bool) (te : Nat → Bool) (tc : Nat → Bool) (xSet : Nat → Int64) (S : Nat → Nat) (XH : Nat → Nat) (xHeld : Nat → Int64) (xArg : Nat → Int64) (yCo : Nat → Int32) (yAr : Nat → Int32) (M : Nat → Nat) (yPair : Nat → Int32) (ySeen : Nat → Int32) (ySet : Nat → Int64) (yStay : Nat → Int32) (yArg : Nat → Int64) (yHan : Nat → Int32) (yKept : Nat → Int64) (yGiven : Int32), u = (nI n, nI 0, nI b, deep, res, thr, thn, (fun zz => nI (CL zz)), cStr, cOp, cA, cB, (fun zz => nI (OK zz)), oKin, oOpen, xFc, xFs, xPc, xKo, xPk, (fun zz => ob_xa (tw zz) (te zz) (tc zz)), pVal, xSet, (fun zz => nI (S zz)), aOut, aVar, (fun zz => nI (FC zz)), (fun zz => nI (FP zz)), (fun zz => nI (FA zz)), (fun zz => nI (FH zz)), (fun zz => nI (XH zz)), (fun zz => nI (FT zz)), fSelf, xHeld, stk, (fun zz => nI (TA zz)), (fun zz => nI (TH zz)), xArg) ∧ v = (nI n, nI m, yGiven, nI 0, deep, nI b, thr, thn, res, cStr, (fun zz => nI (CL zz)), cOp, cA, cB, (fun zz => nI (OK zz)), oKin, yCo, yAr, oOpen, (fun zz => nI (M zz)), (fun zz => ob_yf (tw zz) (te zz) (tc zz)), yPair, ySeen, pVal, ySet, (fun zz => ob_th (S zz)), yStay, aOut, aVar, yArg, (fun zz => nI (FC zz)), (fun zz => nI (FA zz)), (fun zz => nI (FP zz)), (fun zz => nI (FH zz)), yHan, (fun zz => nI (FT zz)), (fun zz => nI (TA zz)), (fun zz => nI (TH zz)), fSelf, yKept, stk) ∧ ob_R n 0 b m res thr thn CL cOp cA cB OK oKin pVal aOut aVar FC FA FP FH FT fSelf stk TA TH xFc xFs xPc xKo xPk tw tc xSet S XH xHeld yCo yAr M yPair ySet yStay yHan yKept ∧ m ≤ B
def ob_xr (post : Int32 → SX → Prop) (fuel : Nat) (step : Int32) (u : SX) : Prop := match u with
  | (pf_objectCount, pf_frames, pf_begun, pf_deepest, pf_latest, pf_throwing, pf_thrown, pa_codeLength, pa_codeStrict, pa_codeOp, pa_codeA, pa_codeB, pa_objectKind, pa_prototype, pa_extensible, pa_functionCode, pa_functionScope, pa_propertyCount, pa_keyOrder, pa_propertyKind, pa_attributes, pa_valueOrGetter, pa_setterOf, pa_activationState, pa_activationAround, pa_variables, pa_frameCode, pa_frameNext, pa_frameActivation, pa_frameHeight, pa_frameHandlers, pa_frameEnding, pa_frameThis, pa_frameHeld, pa_stack, pa_handlerAt, pa_handlerHeight, pa_arguments) => wX_run_2 post fuel step pf_objectCount pf_frames pf_begun pf_deepest pf_latest pf_throwing pf_thrown pa_codeLength pa_codeStrict pa_codeOp pa_codeA pa_codeB pa_objectKind pa_prototype pa_extensible pa_functionCode pa_functionScope pa_propertyCount pa_keyOrder pa_propertyKind pa_attributes pa_valueOrGetter pa_setterOf pa_activationState pa_activationAround pa_variables pa_frameCode pa_frameNext pa_frameActivation pa_frameHeight pa_frameHandlers pa_frameEnding pa_frameThis pa_frameHeld pa_stack pa_handlerAt pa_handlerHeight pa_arguments
def ob_yr (post : Int32 → SY → Prop) (fuel : Nat) (v : SY) : Prop := match v with
  | (pf_objects, pf_moment, pf_given, pf_depth, pf_deepest, pf_begun, pf_throwing, pf_thrown, pf_result, pa_strict, pa_length, pa_ops, pa_as, pa_bs, pa_kind, pa_kin, pa_codeOf, pa_around, pa_open, pa_made, pa_flags, pa_pair, pa_seen, pa_value, pa_setter, pa_there, pa_stays, pa_outer, pa_variables, pa_arguments, pa_code, pa_activation, pa_at, pa_high, pa_handlers, pa_then, pa_tryAt, pa_tryHigh, pa_self, pa_kept, pa_stack) => wY_work_0 post fuel pf_objects pf_moment pf_given pf_depth pf_deepest pf_begun pf_throwing pf_thrown pf_result pa_strict pa_length pa_ops pa_as pa_bs pa_kind pa_kin pa_codeOf pa_around pa_open pa_made pa_flags pa_pair pa_seen pa_value pa_setter pa_there pa_stays pa_outer pa_variables pa_arguments pa_code pa_activation pa_at pa_high pa_handlers pa_then pa_tryAt pa_tryHigh pa_self pa_kept pa_stack
section
variable {n : Nat} {d : Nat} {b : Nat} {m : Nat} {deep : Int32} {res : Int64} {thr : Int32} {thn : Int64} {CL : Nat → Nat} {cStr : Nat → Int32} {cOp : Nat → Int32} {cA : Nat → Int32} {cB : Nat → Int32} {OK : Nat → Nat} {oKin : Nat → Int32} {oOpen : Nat → Int32} {pVal : Nat → Int64} {aOut : Nat → Int32} {aVar : Nat → Int64} {FC : Nat → Nat} {FA : Nat → Nat} {FP : Nat → Nat} {FH : Nat → Nat} {FT : Nat → Nat} {fSelf : Nat → Int64} {stk : Nat → Int64} {TA : Nat → Nat} {TH : Nat → Nat} {xFc : Nat → Int32} {xFs : Nat → Int32} {xPc : Nat → Int32} {xKo : Nat → Int32} {xPk : Nat → Int32} {tw : Nat → Bool} {te : Nat → Bool} {tc : Nat → Bool} {xSet : Nat → Int64} {S : Nat → Nat} {XH : Nat → Nat} {xHeld : Nat → Int64} {xArg : Nat → Int64} {yCo : Nat → Int32} {yAr : Nat → Int32} {M : Nat → Nat} {yPair : Nat → Int32} {ySeen : Nat → Int32} {ySet : Nat → Int64} {yStay : Nat → Int32} {yArg : Nat → Int64} {yHan : Nat → Int32} {yKept : Nat → Int64} {yGiven : Int32}
variable {e B w : Nat}
theorem ob_E_mk (R : ob_R n 0 b m res thr thn CL cOp cA cB OK oKin pVal aOut aVar FC FA FP FH FT fSelf stk TA TH xFc xFs xPc xKo xPk tw tc xSet S XH xHeld yCo yAr M yPair ySet yStay yHan yKept) (hm : m ≤ B) : ob_E B (nI n, nI 0, nI b, deep, res, thr, thn, (fun zz => nI (CL zz)), cStr, cOp, cA, cB, (fun zz => nI (OK zz)), oKin, oOpen, xFc, xFs, xPc, xKo, xPk, (fun zz => ob_xa (tw zz) (te zz) (tc zz)), pVal, xSet, (fun zz => nI (S zz)), aOut, aVar, (fun zz => nI (FC zz)), (fun zz => nI (FP zz)), (fun zz => nI (FA zz)), (fun zz => nI (FH zz)), (fun zz => nI (XH zz)), (fun zz => nI (FT zz)), fSelf, xHeld, stk, (fun zz => nI (TA zz)), (fun zz => nI (TH zz)), xArg) (nI n, nI m, yGiven, nI 0, deep, nI b, thr, thn, res, cStr, (fun zz => nI (CL zz)), cOp, cA, cB, (fun zz => nI (OK zz)), oKin, yCo, yAr, oOpen, (fun zz => nI (M zz)), (fun zz => ob_yf (tw zz) (te zz) (tc zz)), yPair, ySeen, pVal, ySet, (fun zz => ob_th (S zz)), yStay, aOut, aVar, yArg, (fun zz => nI (FC zz)), (fun zz => nI (FA zz)), (fun zz => nI (FP zz)), (fun zz => nI (FH zz)), yHan, (fun zz => nI (FT zz)), (fun zz => nI (TA zz)), (fun zz => nI (TH zz)), fSelf, yKept, stk) :=
  ⟨n, b, m, deep, res, thr, thn, CL, cStr, cOp, cA, cB, OK, oKin, oOpen, pVal, aOut, aVar, FC, FA, FP, FH, FT, fSelf, stk, TA, TH, xFc, xFs, xPc, xKo, xPk, tw, te, tc, xSet, S, XH, xHeld, xArg, yCo, yAr, M, yPair, ySeen, ySet, yStay, yArg, yHan, yKept, yGiven, rfl, rfl, R, hm⟩
/-- LONG: all frames are left -/
theorem ob_long : ∀ (d : Nat) (S : Nat → Nat) (i : Nat), i + d ≤ 6 → ob_R n d b m res thr thn CL cOp cA cB OK oKin pVal aOut aVar FC FA FP FH FT fSelf stk TA TH xFc xFs xPc xKo xPk tw tc xSet S XH xHeld yCo yAr M yPair ySet yStay yHan yKept → ∃ S' : Nat → Nat, ob_R n 0 b m res thr thn CL cOp cA cB OK oKin pVal aOut aVar FC FA FP FH FT fSelf stk TA TH xFc xFs xPc xKo xPk tw tc xSet S' XH xHeld yCo yAr M yPair ySet yStay yHan yKept ∧
    (∀ post : Int32 → SX → Prop, post 2 (nI n, nI 0, nI b, deep, res, thr, thn, (fun zz => nI (CL zz)), cStr, cOp, cA, cB, (fun zz => nI (OK zz)), oKin, oOpen, xFc, xFs, xPc, xKo, xPk, (fun zz => ob_xa (tw zz) (te zz) (tc zz)), pVal, xSet, (fun zz => nI (S' zz)), aOut, aVar, (fun zz => nI (FC zz)), (fun zz => nI (FP zz)), (fun zz => nI (FA zz)), (fun zz => nI (FH zz)), (fun zz => nI (XH zz)), (fun zz => nI (FT zz)), fSelf, xHeld, stk, (fun zz => nI (TA zz)), (fun zz => nI (TH zz)), xArg) → wX_endLong_2 post (d + 1) (nI i) (nI n) (nI d) (nI b) deep res thr thn (fun zz => nI (CL zz)) cStr cOp cA cB (fun zz => nI (OK zz)) oKin oOpen xFc xFs xPc xKo xPk (fun zz => ob_xa (tw zz) (te zz) (tc zz)) pVal xSet (fun zz => nI (S zz)) aOut aVar (fun zz => nI (FC zz)) (fun zz => nI (FP zz)) (fun zz => nI (FA zz)) (fun zz => nI (FH zz)) (fun zz => nI (XH zz)) (fun zz => nI (FT zz)) fSelf xHeld stk (fun zz => nI (TA zz)) (fun zz => nI (TH zz)) xArg) ∧
    (∀ post : Int32 → SY → Prop, post 2 (nI n, nI m, yGiven, nI 0, deep, nI b, thr, thn, 8589934592, cStr, (fun zz => nI (CL zz)), cOp, cA, cB, (fun zz => nI (OK zz)), oKin, yCo, yAr, oOpen, (fun zz => nI (M zz)), (fun zz => ob_yf (tw zz) (te zz) (tc zz)), yPair, ySeen, pVal, ySet, (fun zz => ob_th (S' zz)), yStay, aOut, aVar, yArg, (fun zz => nI (FC zz)), (fun zz => nI (FA zz)), (fun zz => nI (FP zz)), (fun zz => nI (FH zz)), yHan, (fun zz => nI (FT zz)), (fun zz => nI (TA zz)), (fun zz => nI (TH zz)), fSelf, yKept, stk) → wY_work_85 post (d + 1) (nI n) (nI m) yGiven (nI d) deep (nI b) thr thn res cStr (fun zz => nI (CL zz)) cOp cA cB (fun zz => nI (OK zz)) oKin yCo yAr oOpen (fun zz => nI (M zz)) (fun zz => ob_yf (tw zz) (te zz) (tc zz)) yPair ySeen pVal ySet (fun zz => ob_th (S zz)) yStay aOut aVar yArg (fun zz => nI (FC zz)) (fun zz => nI (FA zz)) (fun zz => nI (FP zz)) (fun zz => nI (FH zz)) yHan (fun zz => nI (FT zz)) (fun zz => nI (TA zz)) (fun zz => nI (TH zz)) fSelf yKept stk) := by
  intro d
  induction d with
  | zero =>
    intro S i hi R
    refine ⟨S, R, fun post hp => ?_, fun post hp => ?_⟩
    · unfold wX_endLong_2
      exact br_c (fun _ => hp) (fun _ => br_t (by decide) hp)
    · unfold wY_work_85
      exact br_t (by decide) hp
  | succ e ih =>
    intro S i hi R
    obtain ⟨he, ha, hS, hs⟩ := ob_actS R
    obtain ⟨S', R', hX, hY⟩ := ih _ (i + 1) (by omega) (ob_leaveR R)
    refine ⟨S', R', fun post hp => ?_, fun post hp => ?_⟩
    · unfold wX_endLong_2
      refine br_f (nI_ge (b := 6) (by omega) (by decide)) (br_f (nI_nle (by omega) (by omega)) ?_)
      refine ob_leaveX he ha hS _ ?_
      rw [nI_1]
      exact nm_e (hX post hp)
    · unfold wY_work_85
      refine br_f (nI_nle (by omega) (by omega)) ?_
      refine ob_leaveY he ha hS hs _ ?_
      exact hY post hp
/-- no frame: the run has ended -/
theorem ob_end (R : ob_R n 0 b m res thr thn CL cOp cA cB OK oKin pVal aOut aVar FC FA FP FH FT fSelf stk TA TH xFc xFs xPc xKo xPk tw tc xSet S XH xHeld yCo yAr M yPair ySet yStay yHan yKept) (hm : m ≤ B) : ∃ (r : Int32) (u' : SX) (v' : SY), ob_E B u' v' ∧
    (∀ post : Int32 → SX → Prop, post r u' → ∀ f step, step < 1000000 → wX_run_2 post (f + 1) (nI step) (nI n) (nI 0) (nI b) deep res thr thn (fun zz => nI (CL zz)) cStr cOp cA cB (fun zz => nI (OK zz)) oKin oOpen xFc xFs xPc xKo xPk (fun zz => ob_xa (tw zz) (te zz) (tc zz)) pVal xSet (fun zz => nI (S zz)) aOut aVar (fun zz => nI (FC zz)) (fun zz => nI (FP zz)) (fun zz => nI (FA zz)) (fun zz => nI (FH zz)) (fun zz => nI (XH zz)) (fun zz => nI (FT zz)) fSelf xHeld stk (fun zz => nI (TA zz)) (fun zz => nI (TH zz)) xArg) ∧
    (∀ post : Int32 → SY → Prop, post r v' → ∀ f, wY_work_0 post (f + 1) (nI n) (nI m) yGiven (nI 0) deep (nI b) thr thn res cStr (fun zz => nI (CL zz)) cOp cA cB (fun zz => nI (OK zz)) oKin yCo yAr oOpen (fun zz => nI (M zz)) (fun zz => ob_yf (tw zz) (te zz) (tc zz)) yPair ySeen pVal ySet (fun zz => ob_th (S zz)) yStay aOut aVar yArg (fun zz => nI (FC zz)) (fun zz => nI (FA zz)) (fun zz => nI (FP zz)) (fun zz => nI (FH zz)) yHan (fun zz => nI (FT zz)) (fun zz => nI (TA zz)) (fun zz => nI (TH zz)) fSelf yKept stk) := by
  have hT := R.2.2.2.2.2.2.2
  have hst : ∀ step, step < 1000000 → ¬ (1000000 : Int32) ≤ nI step := fun step h => nI_ge (b := 1000000) h (by decide)
  rcases hT.2.1 with h0 | ⟨h1, hv⟩
  · refine ⟨0, _, _, ob_E_mk (deep := deep) (cStr := cStr) (oOpen := oOpen) (te := te) (xArg := xArg) (ySeen := ySeen) (yArg := yArg) (yGiven := yGiven) R hm, fun post hp f step hs => ?_, fun post hp f => ?_⟩
    · unfold wX_run_2 wX_run_260
      exact br_f (hst step hs) (br_t (by decide) (br_t h0 hp))
    · unfold wY_work_0 wY_work_168
      exact br_t (by decide) (br_t h0 (br_t h0 hp))
  · have hne : ¬ thr = 0 := by rw [h1]; decide
    have R' : ob_R n 0 b m thn thr thn CL cOp cA cB OK oKin pVal aOut aVar FC FA FP FH FT fSelf stk TA TH xFc xFs xPc xKo xPk tw tc xSet S XH xHeld yCo yAr M yPair ySet yStay yHan yKept := by
      obtain ⟨hC, hO, hP, hL, hY, hA, hF, hT⟩ := R
      exact ⟨hC, hO, hP, hL, hY, hA, hF, hT.1, hT.2.1, fun h => absurd rfl h⟩
    refine ⟨1, _, _, ob_E_mk (deep := deep) (cStr := cStr) (oOpen := oOpen) (te := te) (xArg := xArg) (ySeen := ySeen) (yArg := yArg) (yGiven := yGiven) R' hm, fun post hp f step hs => ?_, fun post hp f => ?_⟩
    · unfold wX_run_2 wX_run_260
      exact br_f (hst step hs) (br_t (by decide) (br_f hne hp))
    · unfold wY_work_0 wY_work_168
      exact br_t (by decide) (br_f hne (br_f hne hp))
theorem ob_xr_of {b B w : Nat} {u : SX} {v : SY} (h : ob_S b B w u v) (post : Int32 → SX → Prop) (fuel : Nat) (step : Int32) : ob_xr post fuel step u → (match u with | (pf_objectCount, pf_frames, pf_begun, pf_deepest, pf_latest, pf_throwing, pf_thrown, pa_codeLength, pa_codeStrict, pa_codeOp, pa_codeA, pa_codeB, pa_objectKind, pa_prototype, pa_extensible, pa_functionCode, pa_functionScope, pa_propertyCount, pa_keyOrder, pa_propertyKind, pa_attributes, pa_valueOrGetter, pa_setterOf, pa_activationState, pa_activationAround, pa_variables, pa_frameCode, pa_frameNext, pa_frameActivation, pa_frameHeight, pa_frameHandlers, pa_frameEnding, pa_frameThis, pa_frameHeld, pa_stack, pa_handlerAt, pa_handlerHeight, pa_arguments) => ∀ x1 : Int32, x1 = step → wX_run_2 post fuel x1 pf_objectCount pf_frames pf_begun pf_deepest pf_latest pf_throwing pf_thrown pa_codeLength pa_codeStrict pa_codeOp pa_codeA pa_codeB pa_objectKind pa_prototype pa_extensible pa_functionCode pa_functionScope pa_propertyCount pa_keyOrder pa_propertyKind pa_attributes pa_valueOrGetter pa_setterOf pa_activationState pa_activationAround pa_variables pa_frameCode pa_frameNext pa_frameActivation pa_frameHeight pa_frameHandlers pa_frameEnding pa_frameThis pa_frameHeld pa_stack pa_handlerAt pa_handlerHeight pa_arguments) := by
  obtain ⟨n, d, m, deep, res, thr, thn, CL, cStr, cOp, cA, cB, OK, oKin, oOpen, pVal, aOut, aVar, FC, FA, FP, FH, FT, fSelf, stk, TA, TH, xFc, xFs, xPc, xKo, xPk, tw, te, tc, xSet, S, XH, xHeld, xArg, yCo, yAr, M, yPair, ySeen, ySet, yStay, yArg, yHan, yKept, yGiven, rfl, rfl, _⟩ := h
  exact fun h x e => by rw [e]; exact h
/-- one step of the run: a throw goes on, a frame ends, an instruction is done; or the run is too long -/
theorem ob_step {B0 : Nat} (R : ob_R n (e+1) b m res thr thn CL cOp cA cB OK oKin pVal aOut aVar FC FA FP FH FT fSelf stk TA TH xFc xFs xPc xKo xPk tw tc xSet S XH xHeld yCo yAr M yPair ySet yStay yHan yKept) (hB : B0 + 1500 < 2 ^ 31) (hm : m ≤ B0 + 5 * b) (hw : 4 * (e + 1) + ob_hs XH (e + 1) ≤ w) :
    (∃ b' w' u1 v1, ob_S b' (B0 + 5 * b') w' u1 v1 ∧ 5 * (300 - b') + w' < 5 * (300 - b) + w ∧
      (∀ (post : Int32 → SX → Prop) (f step : Nat), step < 1000000 → (match u1 with | (pf_objectCount, pf_frames, pf_begun, pf_deepest, pf_latest, pf_throwing, pf_thrown, pa_codeLength, pa_codeStrict, pa_codeOp, pa_codeA, pa_codeB, pa_objectKind, pa_prototype, pa_extensible, pa_functionCode, pa_functionScope, pa_propertyCount, pa_keyOrder, pa_propertyKind, pa_attributes, pa_valueOrGetter, pa_setterOf, pa_activationState, pa_activationAround, pa_variables, pa_frameCode, pa_frameNext, pa_frameActivation, pa_frameHeight, pa_frameHandlers, pa_frameEnding, pa_frameThis, pa_frameHeld, pa_stack, pa_handlerAt, pa_handlerHeight, pa_arguments) => ∀ x1 : Int32, x1 = nI (step + 1) → wX_run_2 post f x1 pf_objectCount pf_frames pf_begun pf_deepest pf_latest pf_throwing pf_thrown pa_codeLength pa_codeStrict pa_codeOp pa_codeA pa_codeB pa_objectKind pa_prototype pa_extensible pa_functionCode pa_functionScope pa_propertyCount pa_keyOrder pa_propertyKind pa_attributes pa_valueOrGetter pa_setterOf pa_activationState pa_activationAround pa_variables pa_frameCode pa_frameNext pa_frameActivation pa_frameHeight pa_frameHandlers pa_frameEnding pa_frameThis pa_frameHeld pa_stack pa_handlerAt pa_handlerHeight pa_arguments) → wX_run_2 post (f + 1) (nI step) (nI n) (nI (e+1)) (nI b) deep res thr thn (fun zz => nI (CL zz)) cStr cOp cA cB (fun zz => nI (OK zz)) oKin oOpen xFc xFs xPc xKo xPk (fun zz => ob_xa (tw zz) (te zz) (tc zz)) pVal xSet (fun zz => nI (S zz)) aOut aVar (fun zz => nI (FC zz)) (fun zz => nI (FP zz)) (fun zz => nI (FA zz)) (fun zz => nI (FH zz)) (fun zz => nI (XH zz)) (fun zz => nI (FT zz)) fSelf xHeld stk (fun zz => nI (TA zz)) (fun zz => nI (TH zz)) xArg) ∧
      (∀ (post : Int32 → SY → Prop) (f : Nat), ob_yr post f v1 → wY_work_0 post (f + 1) (nI n) (nI m) yGiven (nI (e+1)) deep (nI b) thr thn res cStr (fun zz => nI (CL zz)) cOp cA cB (fun zz => nI (OK zz)) oKin yCo yAr oOpen (fun zz => nI (M zz)) (fun zz => ob_yf (tw zz) (te zz) (tc zz)) yPair ySeen pVal ySet (fun zz => ob_th (S zz)) yStay aOut aVar yArg (fun zz => nI (FC zz)) (fun zz => nI (FA zz)) (fun zz => nI (FP zz)) (fun zz => nI (FH zz)) yHan (fun zz => nI (FT zz)) (fun zz => nI (TA zz)) (fun zz => nI (TH zz)) fSelf yKept stk)) ∨
    (∃ u1 v1, ob_E (B0 + 1500) u1 v1 ∧
      (∀ (post : Int32 → SX → Prop) (f step : Nat), step < 1000000 → post 2 u1 → wX_run_2 post (f + 1) (nI step) (nI n) (nI (e+1)) (nI b) deep res thr thn (fun zz => nI (CL zz)) cStr cOp cA cB (fun zz => nI (OK zz)) oKin oOpen xFc xFs xPc xKo xPk (fun zz => ob_xa (tw zz) (te zz) (tc zz)) pVal xSet (fun zz => nI (S zz)) aOut aVar (fun zz => nI (FC zz)) (fun zz => nI (FP zz)) (fun zz => nI (FA zz)) (fun zz => nI (FH zz)) (fun zz => nI (XH zz)) (fun zz => nI (FT zz)) fSelf xHeld stk (fun zz => nI (TA zz)) (fun zz => nI (TH zz)) xArg) ∧
      (∀ (post : Int32 → SY → Prop) (f : Nat), post 2 v1 → wY_work_0 post (f + 1) (nI n) (nI m) yGiven (nI (e+1)) deep (nI b) thr thn res cStr (fun zz => nI (CL zz)) cOp cA cB (fun zz => nI (OK zz)) oKin yCo yAr oOpen (fun zz => nI (M zz)) (fun zz => ob_yf (tw zz) (te zz) (tc zz)) yPair ySeen pVal ySet (fun zz => ob_th (S zz)) yStay aOut aVar yArg (fun zz => nI (FC zz)) (fun zz => nI (FA zz)) (fun zz => nI (FP zz)) (fun zz => nI (FH zz)) yHan (fun zz => nI (FT zz)) (fun zz => nI (TA zz)) (fun zz => nI (TH zz)) fSelf yKept stk)) := by
  have hF := R.2.2.2.2.2.2.1
  have hT := R.2.2.2.2.2.2.2
  have hCC := R.1
  have he : e + 1 ≤ 6 := hF.1
  obtain ⟨f1, f2, f3, f4, f5, f6⟩ := hF.2.1 e (by omega)
  have hst : ∀ step, step < 1000000 → ¬ (1000000 : Int32) ≤ nI step := fun step h => nI_ge (b := 1000000) h (by decide)
  have hd0 : ¬ nI (e + 1) ≤ 0 := nI_nle (by omega) (by omega)
  have hin : vp_in (nI e) 6 := vp_in_nI (by omega) (by decide)
  have hcl : (nI e).toNatClampNeg = e := ob_cl (by omega)
  have hb := hT.1
  have hin5 : FP e < 24 → vp_in (nI (24 * FC e + FP e)) 192 := fun h => vp_in_nI (by omega) (by decide)
  have hcl5 : (nI (24 * FC e + FP e)).toNatClampNeg = 24 * FC e + FP e := ob_cl (by omega)
  by_cases hthr : thr = 0
  · obtain ⟨hCl, hok⟩ := hCC (FC e) f1
    by_cases hlt : FP e < CL (FC e)
    · by_cases hb3 : b < 300
      · left
        have hin5 := hin5 (by omega)
        have R1 : ob_R n (e+1) (b+1) m res thr thn CL cOp cA cB OK oKin pVal aOut aVar FC FA (ob_um FP e (FP e + 1)) FH FT fSelf stk TA TH xFc xFs xPc xKo xPk tw tc xSet S XH xHeld yCo yAr M yPair ySet yStay yHan yKept := by
          obtain ⟨hC, hO, hP, hL, hY, hA, hF, hT⟩ := R
          exact ⟨hC, hO, hP, hL, hY, hA, ob_gF_at hF (by omega), by omega, hT.2.1, hT.2.2⟩
        obtain ⟨u1, v1, hS, hX, hY⟩ := ob_act (deep := deep) (cStr := cStr) (oOpen := oOpen) (te := te) (xArg := xArg) (ySeen := ySeen) (yArg := yArg) (yGiven := yGiven) (B := B0 + 5 * (b + 1)) (w := w) R1 hthr (hok (FP e) hlt) (by omega) (by omega) hw
        refine ⟨b + 1, w + 4, u1, v1, hS, by omega, fun post f step hs h => ?_, fun post f h => ?_⟩
        · have key : ob_xd (fun u => match u with | (pf_objectCount, pf_frames, pf_begun, pf_deepest, pf_latest, pf_throwing, pf_thrown, pa_codeLength, pa_codeStrict, pa_codeOp, pa_codeA, pa_codeB, pa_objectKind, pa_prototype, pa_extensible, pa_functionCode, pa_functionScope, pa_propertyCount, pa_keyOrder, pa_propertyKind, pa_attributes, pa_valueOrGetter, pa_setterOf, pa_activationState, pa_activationAround, pa_variables, pa_frameCode, pa_frameNext, pa_frameActivation, pa_frameHeight, pa_frameHandlers, pa_frameEnding, pa_frameThis, pa_frameHeld, pa_stack, pa_handlerAt, pa_handlerHeight, pa_arguments) => ∀ x1 : Int32, x1 = nI (step + 1) → wX_run_2 post f x1 pf_objectCount pf_frames pf_begun pf_deepest pf_latest pf_throwing pf_thrown pa_codeLength pa_codeStrict pa_codeOp pa_codeA pa_codeB pa_objectKind pa_prototype pa_extensible pa_functionCode pa_functionScope pa_propertyCount pa_keyOrder pa_propertyKind pa_attributes pa_valueOrGetter pa_setterOf pa_activationState pa_activationAround pa_variables pa_frameCode pa_frameNext pa_frameActivation pa_frameHeight pa_frameHandlers pa_frameEnding pa_frameThis pa_frameHeld pa_stack pa_handlerAt pa_handlerHeight pa_arguments) (nI n, nI (e+1), nI (b+1), deep, res, thr, thn, (fun zz => nI (CL zz)), cStr, cOp, cA, cB, (fun zz => nI (OK zz)), oKin, oOpen, xFc, xFs, xPc, xKo, xPk, (fun zz => ob_xa (tw zz) (te zz) (tc zz)), pVal, xSet, (fun zz => nI (S zz)), aOut, aVar, (fun zz => nI (FC zz)), (fun zz => nI ((ob_um FP e (FP e + 1)) zz)), (fun zz => nI (FA zz)), (fun zz => nI (FH zz)), (fun zz => nI (XH zz)), (fun zz => nI (FT zz)), fSelf, xHeld, stk, (fun zz => nI (TA zz)), (fun zz => nI (TH zz)), xArg) (cOp (24 * FC e + FP e)) (cA (24 * FC e + FP e)) (cB (24 * FC e + FP e)) := hX _ h
          unfold wX_run_2
          refine br_f (hst step hs) (br_f hd0 (nm_r (nI_pred e) ⟨hin, nm_r (e' := nI (FC e)) (by rw [hcl]) ⟨hin, nm_r (e' := nI (FP e)) (by rw [hcl]) (br_t hthr ⟨vp_in_nI f1 (by decide), br_t (by rw [ob_cl (by omega)]; exact nI_lt hlt (by omega)) (br_t (nI_lt (b := 300) hb3 (by decide)) (nm_r (nI_1 b) ⟨hin, nm_r (e' := fun zz => nI (ob_um FP e (FP e + 1) zz)) (by rw [hcl, nI_1, ob_uN]) (nm_r (ob_ix24 _ _) ⟨hin5, nm_r (e' := cOp (24 * FC e + FP e)) (by rw [hcl5]) ?_⟩)⟩))⟩)⟩⟩))
          rw [hcl5, nI_1 step]
          exact ⟨fun h7 => ⟨fun h13 => ⟨fun h18 => ⟨fun h24 => ⟨fun h27 => ⟨hin5, ((((key.1 h7).1 h13).1 h18).1 h24).1 h27⟩, fun h27 => ((((key.1 h7).1 h13).1 h18).1 h24).2 h27⟩, fun h24 => ⟨hin5, (((key.1 h7).1 h13).1 h18).2 h24⟩⟩, fun h18 => ⟨hin5, ((key.1 h7).1 h13).2 h18⟩⟩, fun h13 => ⟨hin5, (key.1 h7).2 h13⟩⟩, fun h7 => ⟨hin5, hin5, key.2 h7⟩⟩
        · unfold wY_work_0
          refine br_f hd0 (nm_r (nI_pred e) ⟨hin, hin, nm_r (e' := nI (24 * FC e + FP e)) (by rw [hcl]; exact ob_iy24 _ _) (br_t hthr ⟨hin, hin, by rw [hcl]; exact vp_in_nI f1 (by decide), ?_⟩)⟩)
          rw [hcl]
          refine br_t (by rw [ob_cl (by omega)]; exact nI_lt hlt (by omega)) (br_f (fun z => by have := (nI_eq (b := 300) (by omega) (by decide)).mp z; omega) (nm_r (nI_1 b) ⟨hin, hin, nm_r (e' := fun zz => nI (ob_um FP e (FP e + 1) zz)) (by rw [nI_1, ob_uN]) ⟨hin5, hin5, hin5, ?_⟩⟩))
          rw [hcl5]
          exact hY _ h
      · right
        have hb300 : b = 300 := by omega
        have hres := ob_resU R
        subst hres
        obtain ⟨S', R', hXl, hYl⟩ := ob_long (n := n) (b := b) (m := m) (deep := deep) (thr := thr) (thn := thn) (CL := CL) (cStr := cStr) (cOp := cOp) (cA := cA) (cB := cB) (OK := OK) (oKin := oKin) (oOpen := oOpen) (pVal := pVal) (aOut := aOut) (aVar := aVar) (FC := FC) (FA := FA) (FP := FP) (FH := FH) (FT := FT) (fSelf := fSelf) (stk := stk) (TA := TA) (TH := TH) (xFc := xFc) (xFs := xFs) (xPc := xPc) (xKo := xKo) (xPk := xPk) (tw := tw) (te := te) (tc := tc) (xSet := xSet) (XH := XH) (xHeld := xHeld) (xArg := xArg) (yCo := yCo) (yAr := yAr) (M := M) (yPair := yPair) (ySeen := ySeen) (ySet := ySet) (yStay := yStay) (yArg := yArg) (yHan := yHan) (yKept := yKept) (yGiven := yGiven) (res := 8589934592) (e + 1) S 0 (by omega) R
        refine ⟨_, _, ob_E_mk (deep := deep) (cStr := cStr) (oOpen := oOpen) (te := te) (xArg := xArg) (ySeen := ySeen) (yArg := yArg) (yGiven := yGiven) R' (by omega), fun post f step hs h => ?_, fun post f h => ?_⟩
        · unfold wX_run_2
          refine br_f (hst step hs) (br_f hd0 (nm_r (nI_pred e) ⟨hin, nm_r (e' := nI (FC e)) (by rw [hcl]) ⟨hin, nm_r (e' := nI (FP e)) (by rw [hcl]) (br_t hthr ⟨vp_in_nI f1 (by decide), br_t (by rw [ob_cl (by omega)]; exact nI_lt hlt (by omega)) (br_f (by rw [hb300]; decide) ?_)⟩)⟩⟩))
          unfold wpX_endLong
          exact ⟨e + 2, hXl _ h⟩
        · unfold wY_work_0
          refine br_f hd0 (nm_r (nI_pred e) ⟨hin, hin, nm_r (e' := nI (24 * FC e + FP e)) (by rw [hcl]; exact ob_iy24 _ _) (br_t hthr ⟨hin, hin, by rw [hcl]; exact vp_in_nI f1 (by decide), ?_⟩)⟩)
          rw [hcl]
          refine br_t (by rw [ob_cl (by omega)]; exact nI_lt hlt (by omega)) (br_t (by rw [hb300]; rfl) ⟨e + 2, hYl _ h⟩)
    · left
      obtain ⟨S', res', thr', thn', FH2, stk', R2, hX2, hY2⟩ := ob_finish (deep := deep) (cStr := cStr) (oOpen := oOpen) (te := te) (xArg := xArg) (ySeen := ySeen) (yArg := yArg) (yGiven := yGiven) R (ob_V_U n)
      have hw' : 4 * (e + 1) + (ob_hs XH e + XH e) ≤ w := hw
      refine ⟨b, w - 4, _, _, ob_S_mk (deep := deep) (cStr := cStr) (oOpen := oOpen) (te := te) (xArg := xArg) (ySeen := ySeen) (yArg := yArg) (yGiven := yGiven) R2 hm (by omega), by omega, fun post f step hs h => ?_, fun post f h => ?_⟩
      · unfold wX_run_2
        refine br_f (hst step hs) (br_f hd0 (nm_r (nI_pred e) ⟨hin, nm_r (e' := nI (FC e)) (by rw [hcl]) ⟨hin, nm_r (e' := nI (FP e)) (by rw [hcl]) (br_t hthr ⟨vp_in_nI f1 (by decide), br_f (by rw [ob_cl (by omega)]; exact nI_nlt (by omega) (by omega)) ?_⟩)⟩⟩))
        rw [nI_1 step]
        exact hX2 _ h
      · unfold wY_work_0
        refine br_f hd0 (nm_r (nI_pred e) ⟨hin, hin, nm_r (e' := nI (24 * FC e + FP e)) (by rw [hcl]; exact ob_iy24 _ _) (br_t hthr ⟨hin, hin, by rw [hcl]; exact vp_in_nI f1 (by decide), ?_⟩)⟩)
        rw [hcl]
        refine br_f (by rw [ob_cl (by omega)]; exact nI_nlt (by omega) (by omega)) ?_
        exact hY2 _ h
  · left
    have hv : ob_V n thn := by
      rcases hT.2.1 with h | h
      · exact absurd h hthr
      · exact h.2
    obtain ⟨d', S', XH', yHan', FP', FH', res', thr', thn', stk', R2, hw2, hX2, hY2⟩ := ob_land (deep := deep) (cStr := cStr) (oOpen := oOpen) (te := te) (xArg := xArg) (ySeen := ySeen) (yArg := yArg) (yGiven := yGiven) R hv
    refine ⟨b, w - 1, _, _, ob_S_mk (deep := deep) (cStr := cStr) (oOpen := oOpen) (te := te) (xArg := xArg) (ySeen := ySeen) (yArg := yArg) (yGiven := yGiven) R2 hm (by omega), by omega, fun post f step hs h => ?_, fun post f h => ?_⟩
    · unfold wX_run_2
      refine br_f (hst step hs) (br_f hd0 (nm_r (nI_pred e) ⟨hin, nm_r (e' := nI (FC e)) (by rw [hcl]) ⟨hin, nm_r (e' := nI (FP e)) (by rw [hcl]) (br_f hthr ?_)⟩⟩))
      rw [nI_1 step]
      exact hX2 _ h
    · unfold wY_work_0
      refine br_f hd0 (nm_r (nI_pred e) ⟨hin, hin, nm_r (e' := nI (24 * FC e + FP e)) (by rw [hcl]; exact ob_iy24 _ _) (br_f hthr ?_)⟩)
      exact hY2 _ h
end
