/-! ===== a run, from any state to its end ===== -/
theorem ob_run {B0 : Nat} (hB : B0 + 1500 < 2 ^ 31) : ∀ (g b w : Nat) (u : SX) (v : SY), 5 * (300 - b) + w ≤ g → ob_S b (B0 + 5 * b) w u v → ∃ (r : Int32) (u' : SX) (v' : SY), ob_E (B0 + 1500) u' v' ∧
    (∀ post : Int32 → SX → Prop, post r u' → ∀ fuel step, g < fuel → step + g < 1000000 → ob_xr post fuel (nI step) u) ∧
    (∀ post : Int32 → SY → Prop, post r v' → ∀ fuel, g < fuel → ob_yr post fuel v) := by
  intro g
  induction g with
  | zero =>
    intro b w u v hg hS
    obtain ⟨n, d, m, deep, res, thr, thn, CL, cStr, cOp, cA, cB, OK, oKin, oOpen, pVal, aOut, aVar, FC, FA, FP, FH, FT, fSelf, stk, TA, TH, xFc, xFs, xPc, xKo, xPk, tw, te, tc, xSet, S, XH, xHeld, xArg, yCo, yAr, M, yPair, ySeen, ySet, yStay, yArg, yHan, yKept, yGiven, rfl, rfl, R, hm, hw⟩ := hS
    have hd : d = 0 := by omega
    subst hd
    have hb := R.2.2.2.2.2.2.2.1
    obtain ⟨r, u', v', hE, hX, hY⟩ := ob_end (deep := deep) (cStr := cStr) (oOpen := oOpen) (te := te) (xArg := xArg) (ySeen := ySeen) (yArg := yArg) (yGiven := yGiven) (B := B0 + 1500) R (by omega)
    refine ⟨r, u', v', hE, fun post hp fuel step hf hs => ?_, fun post hp fuel hf => ?_⟩
    · obtain ⟨f, rfl⟩ : ∃ f, fuel = f + 1 := ⟨fuel - 1, by omega⟩
      exact hX post hp f step (by omega)
    · obtain ⟨f, rfl⟩ : ∃ f, fuel = f + 1 := ⟨fuel - 1, by omega⟩
      exact hY post hp f
  | succ g ih =>
    intro b w u v hg hS
    obtain ⟨n, d, m, deep, res, thr, thn, CL, cStr, cOp, cA, cB, OK, oKin, oOpen, pVal, aOut, aVar, FC, FA, FP, FH, FT, fSelf, stk, TA, TH, xFc, xFs, xPc, xKo, xPk, tw, te, tc, xSet, S, XH, xHeld, xArg, yCo, yAr, M, yPair, ySeen, ySet, yStay, yArg, yHan, yKept, yGiven, rfl, rfl, R, hm, hw⟩ := hS
    cases d with
    | zero =>
      have hb := R.2.2.2.2.2.2.2.1
      obtain ⟨r, u', v', hE, hX, hY⟩ := ob_end (deep := deep) (cStr := cStr) (oOpen := oOpen) (te := te) (xArg := xArg) (ySeen := ySeen) (yArg := yArg) (yGiven := yGiven) (B := B0 + 1500) R (by omega)
      refine ⟨r, u', v', hE, fun post hp fuel step hf hs => ?_, fun post hp fuel hf => ?_⟩
      · obtain ⟨f, rfl⟩ : ∃ f, fuel = f + 1 := ⟨fuel - 1, by omega⟩
        exact hX post hp f step (by omega)
      · obtain ⟨f, rfl⟩ : ∃ f, fuel = f + 1 := ⟨fuel - 1, by omega⟩
        exact hY post hp f
    | succ e =>
      rcases ob_step (deep := deep) (cStr := cStr) (oOpen := oOpen) (te := te) (xArg := xArg) (ySeen := ySeen) (yArg := yArg) (yGiven := yGiven) R hB hm hw with ⟨b', w', u1, v1, hS1, hlt, hX1, hY1⟩ | ⟨u1, v1, hE, hX1, hY1⟩
      · obtain ⟨r, u', v', hE, hX, hY⟩ := ih b' w' u1 v1 (by omega) hS1
        refine ⟨r, u', v', hE, fun post hp fuel step hf hs => ?_, fun post hp fuel hf => ?_⟩
        · obtain ⟨f, rfl⟩ : ∃ f, fuel = f + 1 := ⟨fuel - 1, by omega⟩
          exact hX1 post f step (by omega) (ob_xr_of hS1 post f (nI (step + 1)) (hX post hp f (step + 1) (by omega) (by omega)))
        · obtain ⟨f, rfl⟩ : ∃ f, fuel = f + 1 := ⟨fuel - 1, by omega⟩
          exact hY1 post f (hY post hp f (by omega))
      · refine ⟨2, u1, v1, hE, fun post hp fuel step hf hs => ?_, fun post hp fuel hf => ?_⟩
        · obtain ⟨f, rfl⟩ : ∃ f, fuel = f + 1 := ⟨fuel - 1, by omega⟩
          exact hX1 post f step (by omega) hp
        · obtain ⟨f, rfl⟩ : ∃ f, fuel = f + 1 := ⟨fuel - 1, by omega⟩
          exact hY1 post f hp
/-- both sides run to their end, with one answer -/
theorem ob_runs {B0 w : Nat} {u : SX} {v : SY} (hB : B0 + 1500 < 2 ^ 31) (hw : w ≤ 100000) (h : ob_S 0 B0 w u v) : ∃ (r : Int32) (u' : SX) (v' : SY), ob_E (B0 + 1500) u' v' ∧
    (∀ post : Int32 → SX → Prop, post r u' → wpX_run post u) ∧ (∀ post : Int32 → SY → Prop, post r v' → wpY_work post v) := by
  obtain ⟨r, u', v', hE, hX, hY⟩ := ob_run hB (1500 + w) 0 w u v (by omega) h
  obtain ⟨n, d, m, deep, res, thr, thn, CL, cStr, cOp, cA, cB, OK, oKin, oOpen, pVal, aOut, aVar, FC, FA, FP, FH, FT, fSelf, stk, TA, TH, xFc, xFs, xPc, xKo, xPk, tw, te, tc, xSet, S, XH, xHeld, xArg, yCo, yAr, M, yPair, ySeen, ySet, yStay, yArg, yHan, yKept, yGiven, rfl, rfl, _⟩ := h
  exact ⟨r, u', v', hE, fun post hp => ⟨1500 + w + 1, hX post hp (1500 + w + 1) 0 (by omega) (by omega)⟩, fun post hp => ⟨1500 + w + 1, hY post hp (1500 + w + 1) (by omega)⟩⟩
