/-! ===== the relation at a turn; what the arguments of a call are ===== -/
def i_Rel (k : Nat) (u : SX) (v : SY) : Prop := ob_E (300 * k) u v
theorem i_up {k : Nat} {u : SX} {v : SY} (h : i_Rel k u v) : i_Rel (k + 6) u v := by
  obtain ⟨n, b, m, deep, res, thr, thn, CL, cStr, cOp, cA, cB, OK, oKin, oOpen, pVal, aOut, aVar, FC, FA, FP, FH, FT, fSelf, stk, TA, TH, xFc, xFs, xPc, xKo, xPk, tw, te, tc, xSet, S, XH, xHeld, xArg, yCo, yAr, M, yPair, ySeen, ySet, yStay, yArg, yHan, yKept, yGiven, h1, h2, h3, h4⟩ := h
  exact ⟨n, b, m, deep, res, thr, thn, CL, cStr, cOp, cA, cB, OK, oKin, oOpen, pVal, aOut, aVar, FC, FA, FP, FH, FT, fSelf, stk, TA, TH, xFc, xFs, xPc, xKo, xPk, tw, te, tc, xSet, S, XH, xHeld, xArg, yCo, yAr, M, yPair, ySeen, ySet, yStay, yArg, yHan, yKept, yGiven, h1, h2, h3, by omega⟩
theorem ob_etaX (P : Int32 → SX → Prop) (r : Int32) (u : SX) (h : P r u) : (match u with | (pf_objectCount, pf_frames, pf_begun, pf_deepest, pf_latest, pf_throwing, pf_thrown, pa_codeLength, pa_codeStrict, pa_codeOp, pa_codeA, pa_codeB, pa_objectKind, pa_prototype, pa_extensible, pa_functionCode, pa_functionScope, pa_propertyCount, pa_keyOrder, pa_propertyKind, pa_attributes, pa_valueOrGetter, pa_setterOf, pa_activationState, pa_activationAround, pa_variables, pa_frameCode, pa_frameNext, pa_frameActivation, pa_frameHeight, pa_frameHandlers, pa_frameEnding, pa_frameThis, pa_frameHeld, pa_stack, pa_handlerAt, pa_handlerHeight, pa_arguments) => P r (pf_objectCount, pf_frames, pf_begun, pf_deepest, pf_latest, pf_throwing, pf_thrown, pa_codeLength, pa_codeStrict, pa_codeOp, pa_codeA, pa_codeB, pa_objectKind, pa_prototype, pa_extensible, pa_functionCode, pa_functionScope, pa_propertyCount, pa_keyOrder, pa_propertyKind, pa_attributes, pa_valueOrGetter, pa_setterOf, pa_activationState, pa_activationAround, pa_variables, pa_frameCode, pa_frameNext, pa_frameActivation, pa_frameHeight, pa_frameHandlers, pa_frameEnding, pa_frameThis, pa_frameHeld, pa_stack, pa_handlerAt, pa_handlerHeight, pa_arguments)) := h
theorem ob_etaY (P : Int32 → SY → Prop) (r : Int32) (u : SY) (h : P r u) : (match u with | (pf_objects, pf_moment, pf_given, pf_depth, pf_deepest, pf_begun, pf_throwing, pf_thrown, pf_result, pa_strict, pa_length, pa_ops, pa_as, pa_bs, pa_kind, pa_kin, pa_codeOf, pa_around, pa_open, pa_made, pa_flags, pa_pair, pa_seen, pa_value, pa_setter, pa_there, pa_stays, pa_outer, pa_variables, pa_arguments, pa_code, pa_activation, pa_at, pa_high, pa_handlers, pa_then, pa_tryAt, pa_tryHigh, pa_self, pa_kept, pa_stack) => P r (pf_objects, pf_moment, pf_given, pf_depth, pf_deepest, pf_begun, pf_throwing, pf_thrown, pf_result, pa_strict, pa_length, pa_ops, pa_as, pa_bs, pa_kind, pa_kin, pa_codeOf, pa_around, pa_open, pa_made, pa_flags, pa_pair, pa_seen, pa_value, pa_setter, pa_there, pa_stays, pa_outer, pa_variables, pa_arguments, pa_code, pa_activation, pa_at, pa_high, pa_handlers, pa_then, pa_tryAt, pa_tryHigh, pa_self, pa_kept, pa_stack)) := h
section
variable {n : Nat} {d : Nat} {b : Nat} {m : Nat} {deep : Int32} {res : Int64} {thr : Int32} {thn : Int64} {CL : Nat → Nat} {cStr : Nat → Int32} {cOp : Nat → Int32} {cA : Nat → Int32} {cB : Nat → Int32} {OK : Nat → Nat} {oKin : Nat → Int32} {oOpen : Nat → Int32} {pVal : Nat → Int64} {aOut : Nat → Int32} {aVar : Nat → Int64} {FC : Nat → Nat} {FA : Nat → Nat} {FP : Nat → Nat} {FH : Nat → Nat} {FT : Nat → Nat} {fSelf : Nat → Int64} {stk : Nat → Int64} {TA : Nat → Nat} {TH : Nat → Nat} {xFc : Nat → Int32} {xFs : Nat → Int32} {xPc : Nat → Int32} {xKo : Nat → Int32} {xPk : Nat → Int32} {tw : Nat → Bool} {te : Nat → Bool} {tc : Nat → Bool} {xSet : Nat → Int64} {S : Nat → Nat} {XH : Nat → Nat} {xHeld : Nat → Int64} {xArg : Nat → Int64} {yCo : Nat → Int32} {yAr : Nat → Int32} {M : Nat → Nat} {yPair : Nat → Int32} {ySeen : Nat → Int32} {ySet : Nat → Int64} {yStay : Nat → Int32} {yArg : Nat → Int64} {yHan : Nat → Int32} {yKept : Nat → Int64} {yGiven : Int32}
variable {k o B : Nat} {v1 v2 : Int32} {v : Int64}
theorem ob_nle1 (hn : 1 ≤ n) (hn2 : n < 2 ^ 31) (h : nI n ≤ v1) : nI n - 1 < v1 := by
  rw [ob_sub1 hn]
  exact Int32.lt_of_lt_of_le (nI_lt (by omega) hn2) h
/-- an object -/
theorem ob_isO (hO : ob_gO n OK oKin) (v1 : Int32) : (∃ o, o < n ∧ v1 = nI o) ∨ (v1 < 0 ∨ nI n ≤ v1) := by
  have := hO.1
  rcases pk_ix v1 (n := n) (by omega) with h | h | h
  · exact Or.inr (Or.inl h)
  · exact Or.inr (Or.inr h)
  · exact Or.inl h
theorem ob_inF {lo hi : Int32} (h : v1 < lo ∨ hi < v1) (post : Int32 → Prop) (hp : post 0) : wpY_in post v1 lo hi := by
  unfold wpY_in
  by_cases h0 : v1 < lo
  · exact br_t h0 hp
  · exact br_f h0 (br_t (h.resolve_left h0) hp)
/-- a property -/
theorem ob_isP (hO : ob_gO n OK oKin) (v1 v2 : Int32) : (∃ o k, o < n ∧ k < 32 ∧ v1 = nI o ∧ v2 = nI k ∧ (∀ post : Int32 → Prop, post 1 → wpX_isThere post (nI n, nI d, nI b, deep, res, thr, thn, (fun zz => nI (CL zz)), cStr, cOp, cA, cB, (fun zz => nI (OK zz)), oKin, oOpen, xFc, xFs, xPc, xKo, xPk, (fun zz => ob_xa (tw zz) (te zz) (tc zz)), pVal, xSet, (fun zz => nI (S zz)), aOut, aVar, (fun zz => nI (FC zz)), (fun zz => nI (FP zz)), (fun zz => nI (FA zz)), (fun zz => nI (FH zz)), (fun zz => nI (XH zz)), (fun zz => nI (FT zz)), fSelf, xHeld, stk, (fun zz => nI (TA zz)), (fun zz => nI (TH zz)), xArg) v1 v2) ∧ (∀ post : Int32 → Prop, post 1 → wpY_isProperty post (nI n, nI m, yGiven, nI d, deep, nI b, thr, thn, res, cStr, (fun zz => nI (CL zz)), cOp, cA, cB, (fun zz => nI (OK zz)), oKin, yCo, yAr, oOpen, (fun zz => nI (M zz)), (fun zz => ob_yf (tw zz) (te zz) (tc zz)), yPair, ySeen, pVal, ySet, (fun zz => ob_th (S zz)), yStay, aOut, aVar, yArg, (fun zz => nI (FC zz)), (fun zz => nI (FA zz)), (fun zz => nI (FP zz)), (fun zz => nI (FH zz)), yHan, (fun zz => nI (FT zz)), (fun zz => nI (TA zz)), (fun zz => nI (TH zz)), fSelf, yKept, stk) v1 v2)) ∨
    ((∀ post : Int32 → Prop, post 0 → wpX_isThere post (nI n, nI d, nI b, deep, res, thr, thn, (fun zz => nI (CL zz)), cStr, cOp, cA, cB, (fun zz => nI (OK zz)), oKin, oOpen, xFc, xFs, xPc, xKo, xPk, (fun zz => ob_xa (tw zz) (te zz) (tc zz)), pVal, xSet, (fun zz => nI (S zz)), aOut, aVar, (fun zz => nI (FC zz)), (fun zz => nI (FP zz)), (fun zz => nI (FA zz)), (fun zz => nI (FH zz)), (fun zz => nI (XH zz)), (fun zz => nI (FT zz)), fSelf, xHeld, stk, (fun zz => nI (TA zz)), (fun zz => nI (TH zz)), xArg) v1 v2) ∧ (∀ post : Int32 → Prop, post 0 → wpY_isProperty post (nI n, nI m, yGiven, nI d, deep, nI b, thr, thn, res, cStr, (fun zz => nI (CL zz)), cOp, cA, cB, (fun zz => nI (OK zz)), oKin, yCo, yAr, oOpen, (fun zz => nI (M zz)), (fun zz => ob_yf (tw zz) (te zz) (tc zz)), yPair, ySeen, pVal, ySet, (fun zz => ob_th (S zz)), yStay, aOut, aVar, yArg, (fun zz => nI (FC zz)), (fun zz => nI (FA zz)), (fun zz => nI (FP zz)), (fun zz => nI (FH zz)), yHan, (fun zz => nI (FT zz)), (fun zz => nI (TA zz)), (fun zz => nI (TH zz)), fSelf, yKept, stk) v1 v2)) := by
  have h3 := hO.1
  rcases ob_isO hO v1 with ⟨o, ho, rfl⟩ | h
  · have hYo : ∀ P : Int32 → Prop, P 1 → wpY_in P (nI o) 0 (nI n - 1) := by
      intro P hP
      rw [ob_sub1 (by omega)]
      exact ob_inT (b := 0) (by omega) (by omega) (by omega) _ hP
    have hXo : ¬ nI o < 0 := nI_pos (by omega)
    have hXo2 : ¬ nI n ≤ nI o := nI_ge ho (by omega)
    rcases pk_ix v2 (n := 32) (by decide) with h | h | ⟨k, hk, rfl⟩
    · refine Or.inr ⟨fun post hp => ?_, fun post hp => ?_⟩
      · unfold wpX_isThere
        exact br_f hXo (br_f hXo2 (br_t h hp))
      · unfold wpY_isProperty
        exact hYo _ (br_f (by decide) (ob_inF (Or.inl h) _ (br_t rfl hp)))
    · have h0 : ¬ v2 < 0 := by
        intro z
        have := Int32.lt_of_le_of_lt h z
        exact absurd this (by decide)
      have h31 : 31 < v2 := Int32.lt_of_lt_of_le (by decide) h
      refine Or.inr ⟨fun post hp => ?_, fun post hp => ?_⟩
      · unfold wpX_isThere
        exact br_f hXo (br_f hXo2 (br_f h0 (br_t h hp)))
      · unfold wpY_isProperty
        exact hYo _ (br_f (by decide) (ob_inF (Or.inr h31) _ (br_t rfl hp)))
    · refine Or.inl ⟨o, k, ho, hk, rfl, rfl, fun post hp => ?_, fun post hp => ?_⟩
      · unfold wpX_isThere
        exact br_f hXo (br_f hXo2 (br_f (nI_pos (by omega)) (br_f (nI_ge (b := 32) hk (by decide)) hp)))
      · unfold wpY_isProperty
        exact hYo _ (br_f (by decide) (ob_inT (b := 0) (c := 31) (by omega) (by omega) (by decide) _ (br_f (by decide) hp)))
  · refine Or.inr ⟨fun post hp => ?_, fun post hp => ?_⟩
    · unfold wpX_isThere
      by_cases h0 : v1 < 0
      · exact br_t h0 hp
      · exact br_f h0 (br_t (h.resolve_left h0) hp)
    · unfold wpY_isProperty
      exact ob_inF (h.imp id (ob_nle1 (by omega) (by omega))) _ (br_t rfl hp)
/-- a value -/
theorem ob_isV (hO : ob_gO n OK oKin) (v : Int64) : (ob_V n v ∧ (∀ post : Int32 → Prop, post 1 → wpX_isValue post (nI n, nI d, nI b, deep, res, thr, thn, (fun zz => nI (CL zz)), cStr, cOp, cA, cB, (fun zz => nI (OK zz)), oKin, oOpen, xFc, xFs, xPc, xKo, xPk, (fun zz => ob_xa (tw zz) (te zz) (tc zz)), pVal, xSet, (fun zz => nI (S zz)), aOut, aVar, (fun zz => nI (FC zz)), (fun zz => nI (FP zz)), (fun zz => nI (FA zz)), (fun zz => nI (FH zz)), (fun zz => nI (XH zz)), (fun zz => nI (FT zz)), fSelf, xHeld, stk, (fun zz => nI (TA zz)), (fun zz => nI (TH zz)), xArg) v) ∧ (∀ post : Int32 → Prop, post 1 → wpY_isValue post (nI n, nI m, yGiven, nI d, deep, nI b, thr, thn, res, cStr, (fun zz => nI (CL zz)), cOp, cA, cB, (fun zz => nI (OK zz)), oKin, yCo, yAr, oOpen, (fun zz => nI (M zz)), (fun zz => ob_yf (tw zz) (te zz) (tc zz)), yPair, ySeen, pVal, ySet, (fun zz => ob_th (S zz)), yStay, aOut, aVar, yArg, (fun zz => nI (FC zz)), (fun zz => nI (FA zz)), (fun zz => nI (FP zz)), (fun zz => nI (FH zz)), yHan, (fun zz => nI (FT zz)), (fun zz => nI (TA zz)), (fun zz => nI (TH zz)), fSelf, yKept, stk) v)) ∨
    ((¬ ob_V n v) ∧ (∀ post : Int32 → Prop, post 0 → wpX_isValue post (nI n, nI d, nI b, deep, res, thr, thn, (fun zz => nI (CL zz)), cStr, cOp, cA, cB, (fun zz => nI (OK zz)), oKin, oOpen, xFc, xFs, xPc, xKo, xPk, (fun zz => ob_xa (tw zz) (te zz) (tc zz)), pVal, xSet, (fun zz => nI (S zz)), aOut, aVar, (fun zz => nI (FC zz)), (fun zz => nI (FP zz)), (fun zz => nI (FA zz)), (fun zz => nI (FH zz)), (fun zz => nI (XH zz)), (fun zz => nI (FT zz)), fSelf, xHeld, stk, (fun zz => nI (TA zz)), (fun zz => nI (TH zz)), xArg) v) ∧ (∀ post : Int32 → Prop, post 0 → wpY_isValue post (nI n, nI m, yGiven, nI d, deep, nI b, thr, thn, res, cStr, (fun zz => nI (CL zz)), cOp, cA, cB, (fun zz => nI (OK zz)), oKin, yCo, yAr, oOpen, (fun zz => nI (M zz)), (fun zz => ob_yf (tw zz) (te zz) (tc zz)), yPair, ySeen, pVal, ySet, (fun zz => ob_th (S zz)), yStay, aOut, aVar, yArg, (fun zz => nI (FC zz)), (fun zz => nI (FA zz)), (fun zz => nI (FP zz)), (fun zz => nI (FH zz)), yHan, (fun zz => nI (FT zz)), (fun zz => nI (TA zz)), (fun zz => nI (TH zz)), fSelf, yKept, stk) v)) := by
  have h3 := hO.1
  by_cases hnum : v = v.toInt32.toInt64
  · have hlt : v < 8589934592 := by
      rw [ob_Tlt, ob_TU]
      have := (ob_num_b hnum).2
      omega
    refine Or.inl ⟨Or.inl hnum, fun post hp => ?_, fun post hp => ?_⟩
    · unfold wpX_isValue wX_isValue_20 wX_isValue_21 wpX_isNumber
      exact br_t hlt (br_t rfl (br_t hnum (br_f (by decide) hp)))
    · unfold wpY_isValue wpY_isNumber
      exact br_t hnum (br_f (by decide) hp)
  · by_cases hsp : ¬ v < 8589934592 ∧ v ≤ 8589934597
    · have hnr : ¬ (8589934597 : Int64) < v := by
        rw [ob_Tlt]
        have := hsp.2
        rw [ob_Tle] at this
        omega
      refine Or.inl ⟨Or.inr (Or.inl ?_), fun post hp => ?_, fun post hp => ?_⟩
      · have h0 : ¬ v < 0 := by
          rw [ob_Tlt, show (0 : Int64).toInt = 0 from by decide]
          have := hsp.1
          rw [ob_Tlt, ob_TU] at this
          omega
        obtain ⟨j, hj, rfl⟩ := pk_lOf h0
        have h1 := hsp.1
        have h2 := hsp.2
        rw [ob_Tlt, ob_TU, pk_lT hj] at h1
        rw [ob_Tle, ob_TR, pk_lT hj] at h2
        exact ⟨j - 8589934592, by omega, by rw [show 8589934592 + (j - 8589934592) = j from by omega]⟩
      · unfold wpX_isValue wX_isValue_21
        exact br_f hsp.1 (br_f hnr (br_f (by decide) hp))
      · unfold wpY_isValue wpY_isNumber
        exact br_f hnum (br_t rfl (br_f hsp.1 (br_t hsp.2 hp)))
    · have hX : ∀ post : Int32 → Prop, wpX_objectOf (fun r_5 => (((r_5 < 0 → (post 0)) ∧ (¬ r_5 < 0 → (post 1))))) (nI n, nI d, nI b, deep, res, thr, thn, (fun zz => nI (CL zz)), cStr, cOp, cA, cB, (fun zz => nI (OK zz)), oKin, oOpen, xFc, xFs, xPc, xKo, xPk, (fun zz => ob_xa (tw zz) (te zz) (tc zz)), pVal, xSet, (fun zz => nI (S zz)), aOut, aVar, (fun zz => nI (FC zz)), (fun zz => nI (FP zz)), (fun zz => nI (FA zz)), (fun zz => nI (FH zz)), (fun zz => nI (XH zz)), (fun zz => nI (FT zz)), fSelf, xHeld, stk, (fun zz => nI (TA zz)), (fun zz => nI (TH zz)), xArg) v → wpX_isValue post (nI n, nI d, nI b, deep, res, thr, thn, (fun zz => nI (CL zz)), cStr, cOp, cA, cB, (fun zz => nI (OK zz)), oKin, oOpen, xFc, xFs, xPc, xKo, xPk, (fun zz => ob_xa (tw zz) (te zz) (tc zz)), pVal, xSet, (fun zz => nI (S zz)), aOut, aVar, (fun zz => nI (FC zz)), (fun zz => nI (FP zz)), (fun zz => nI (FA zz)), (fun zz => nI (FH zz)), (fun zz => nI (XH zz)), (fun zz => nI (FT zz)), fSelf, xHeld, stk, (fun zz => nI (TA zz)), (fun zz => nI (TH zz)), xArg) v := by
        intro post h
        have h20 : wX_isValue_20 post v (nI n) (nI d) (nI b) deep res thr thn (fun zz => nI (CL zz)) cStr cOp cA cB (fun zz => nI (OK zz)) oKin oOpen xFc xFs xPc xKo xPk (fun zz => ob_xa (tw zz) (te zz) (tc zz)) pVal xSet (fun zz => nI (S zz)) aOut aVar (fun zz => nI (FC zz)) (fun zz => nI (FP zz)) (fun zz => nI (FA zz)) (fun zz => nI (FH zz)) (fun zz => nI (XH zz)) (fun zz => nI (FT zz)) fSelf xHeld stk (fun zz => nI (TA zz)) (fun zz => nI (TH zz)) xArg := by
          unfold wX_isValue_20 wX_isValue_21 wpX_isNumber
          exact br_t rfl (br_f hnum (br_t rfl h))
        unfold wpX_isValue
        by_cases h1 : v < 8589934592
        · exact br_t h1 h20
        · refine br_f h1 (br_t ?_ h20)
          have : ¬ v ≤ 8589934597 := fun z => hsp ⟨h1, z⟩
          rw [ob_Tle] at this
          rw [ob_Tlt]
          omega
      have hY : ∀ post : Int32 → Prop, wY_isValue_23 post v (nI n) (nI m) yGiven (nI d) deep (nI b) thr thn res cStr (fun zz => nI (CL zz)) cOp cA cB (fun zz => nI (OK zz)) oKin yCo yAr oOpen (fun zz => nI (M zz)) (fun zz => ob_yf (tw zz) (te zz) (tc zz)) yPair ySeen pVal ySet (fun zz => ob_th (S zz)) yStay aOut aVar yArg (fun zz => nI (FC zz)) (fun zz => nI (FA zz)) (fun zz => nI (FP zz)) (fun zz => nI (FH zz)) yHan (fun zz => nI (FT zz)) (fun zz => nI (TA zz)) (fun zz => nI (TH zz)) fSelf yKept stk → wpY_isValue post (nI n, nI m, yGiven, nI d, deep, nI b, thr, thn, res, cStr, (fun zz => nI (CL zz)), cOp, cA, cB, (fun zz => nI (OK zz)), oKin, yCo, yAr, oOpen, (fun zz => nI (M zz)), (fun zz => ob_yf (tw zz) (te zz) (tc zz)), yPair, ySeen, pVal, ySet, (fun zz => ob_th (S zz)), yStay, aOut, aVar, yArg, (fun zz => nI (FC zz)), (fun zz => nI (FA zz)), (fun zz => nI (FP zz)), (fun zz => nI (FH zz)), yHan, (fun zz => nI (FT zz)), (fun zz => nI (TA zz)), (fun zz => nI (TH zz)), fSelf, yKept, stk) v := by
        intro post h
        unfold wpY_isValue wpY_isNumber
        refine br_f hnum (br_t rfl ?_)
        by_cases h1 : v < 8589934592
        · exact br_t h1 h
        · exact br_f h1 (br_f (fun z => hsp ⟨h1, z⟩) h)
      by_cases hob : ¬ v < 17179869184 ∧ v < 17179869184 + (nI n).toInt64
      · have h0 : ¬ v < 0 := by
          rw [ob_Tlt, show (0 : Int64).toInt = 0 from by decide]
          have := hob.1
          rw [ob_Tlt, ob_TO] at this
          omega
        obtain ⟨j, hj, rfl⟩ := pk_lOf h0
        have h1 := hob.1
        have h2 := hob.2
        rw [ob_Tlt, ob_TO, pk_lT hj] at h1
        rw [ob_obj_toI n (by omega), pk_lLT hj (by omega)] at h2
        obtain ⟨o, ho, rfl⟩ : ∃ o, o < n ∧ j = 17179869184 + o := ⟨j - 17179869184, by omega, by omega⟩
        refine Or.inl ⟨ob_V_o ho, fun post hp => hX post ?_, fun post hp => hY post ?_⟩
        · exact ob_objO h3.2 ho _ (br_f (nI_pos (by omega)) hp)
        · unfold wY_isValue_23
          refine ob_isoT o (by omega) _ (br_f (by decide) (br_f ?_ hp))
          rw [ob_obj_toI n (by omega), pk_lLE (by omega) (by omega)]
          omega
      · refine Or.inr ⟨fun hv => ?_, fun post hp => hX post ?_, fun post hp => hY post ?_⟩
        · rcases hv with h | ⟨j, hj, rfl⟩ | ⟨o, ho, rfl⟩
          · exact hnum h
          · refine hsp ⟨?_, ?_⟩
            · rw [ob_Tlt, ob_TU, pk_lT (by omega)]
              omega
            · rw [ob_Tle, ob_TR, pk_lT (by omega)]
              omega
          · exact hob ⟨ob_obj_nlt o (by omega), ob_obj_lt ho (by omega)⟩
        · by_cases h1 : v < 17179869184
          · exact ob_objN h1 _ (br_t (by decide) hp)
          · unfold wpX_objectOf
            exact br_f h1 (br_f (fun z => hob ⟨h1, z⟩) (br_t (by decide) hp))
        · unfold wY_isValue_23
          by_cases h1 : v < 17179869184
          · exact ob_isoF h1 _ (br_t rfl hp)
          · unfold wpY_isObject
            refine br_f h1 (br_f (by decide) (br_t ?_ hp))
            have : ¬ v < 17179869184 + (nI n).toInt64 := fun z => hob ⟨h1, z⟩
            exact Int64.not_lt.mp this
theorem ob_startR (R : ob_R n 0 b m res thr thn CL cOp cA cB OK oKin pVal aOut aVar FC FA FP FH FT fSelf stk TA TH xFc xFs xPc xKo xPk tw tc xSet S XH xHeld yCo yAr M yPair ySet yStay yHan yKept) : ob_R n 0 0 m 8589934592 0 thn CL cOp cA cB OK oKin pVal aOut aVar FC FA FP FH FT fSelf stk TA TH xFc xFs xPc xKo xPk tw tc xSet S XH xHeld yCo yAr M yPair ySet yStay yHan yKept := by
  obtain ⟨hC, hO, hP, hL, hY, hA, hF, hT⟩ := R
  exact ⟨hC, hO, hP, hL, hY, hA, hF, by omega, Or.inl rfl, fun _ => rfl⟩
end
