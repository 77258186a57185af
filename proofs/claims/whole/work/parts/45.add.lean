/-! ===== add, make: the turns ===== -/
theorem i_vc_add {k : Nat} {u : SX} {v : SY} (I : i_Rel k u v) (hk : k + 6 ≤ 3072) (v1 : Int32) (v2 : Int32) (v3 : Int32) (v4 : Int32) : wpX_add (fun r u' => wpY_add (fun r' v' => r' = r ∧ i_Rel (k + 6) u' v') v v1 v2 v3 v4) u v1 v2 v3 v4 := by
  have J := i_up I
  obtain ⟨n, b, m, deep, res, thr, thn, CL, cStr, cOp, cA, cB, OK, oKin, oOpen, pVal, aOut, aVar, FC, FA, FP, FH, FT, fSelf, stk, TA, TH, xFc, xFs, xPc, xKo, xPk, tw, te, tc, xSet, S, XH, xHeld, xArg, yCo, yAr, M, yPair, ySeen, ySet, yStay, yArg, yHan, yKept, yGiven, rfl, rfl, R, hm⟩ := I
  unfold wpX_add
  have hYc : (v1 < 0 ∨ 7 < v1) → ∀ post : Int32 → SY → Prop, post (-1) (nI n, nI m, yGiven, nI 0, deep, nI b, thr, thn, res, cStr, (fun zz => nI (CL zz)), cOp, cA, cB, (fun zz => nI (OK zz)), oKin, yCo, yAr, oOpen, (fun zz => nI (M zz)), (fun zz => ob_yf (tw zz) (te zz) (tc zz)), yPair, ySeen, pVal, ySet, (fun zz => ob_th (S zz)), yStay, aOut, aVar, yArg, (fun zz => nI (FC zz)), (fun zz => nI (FA zz)), (fun zz => nI (FP zz)), (fun zz => nI (FH zz)), yHan, (fun zz => nI (FT zz)), (fun zz => nI (TA zz)), (fun zz => nI (TH zz)), fSelf, yKept, stk) → wpY_add post (nI n, nI m, yGiven, nI 0, deep, nI b, thr, thn, res, cStr, (fun zz => nI (CL zz)), cOp, cA, cB, (fun zz => nI (OK zz)), oKin, yCo, yAr, oOpen, (fun zz => nI (M zz)), (fun zz => ob_yf (tw zz) (te zz) (tc zz)), yPair, ySeen, pVal, ySet, (fun zz => ob_th (S zz)), yStay, aOut, aVar, yArg, (fun zz => nI (FC zz)), (fun zz => nI (FA zz)), (fun zz => nI (FP zz)), (fun zz => nI (FH zz)), yHan, (fun zz => nI (FT zz)), (fun zz => nI (TA zz)), (fun zz => nI (TH zz)), fSelf, yKept, stk) v1 v2 v3 v4 := by
    intro h post hp
    unfold wpY_add
    exact ob_inF h _ (br_t rfl hp)
  rcases pk_ix v1 (n := 8) (by decide) with h | h | ⟨c, hc, rfl⟩
  · exact br_t h (hYc (Or.inl h) _ ⟨rfl, J⟩)
  · have h0 : ¬ v1 < 0 := fun z => absurd (Int32.lt_of_le_of_lt h z) (by decide)
    have h7 : 7 < v1 := Int32.lt_of_lt_of_le (by decide) h
    exact br_f h0 (br_t h (hYc (Or.inr h7) _ ⟨rfl, J⟩))
  · have hin : vp_in (nI c) 8 := vp_in_nI hc (by decide)
    obtain ⟨hl, hokc⟩ := R.1 c hc
    refine br_f (nI_pos (by omega)) (br_f (nI_ge (b := 8) hc (by decide)) ?_)
    have hYop : (v2 < 0 ∨ 31 < v2) → ∀ post : Int32 → SY → Prop, post (-1) (nI n, nI m, yGiven, nI 0, deep, nI b, thr, thn, res, cStr, (fun zz => nI (CL zz)), cOp, cA, cB, (fun zz => nI (OK zz)), oKin, yCo, yAr, oOpen, (fun zz => nI (M zz)), (fun zz => ob_yf (tw zz) (te zz) (tc zz)), yPair, ySeen, pVal, ySet, (fun zz => ob_th (S zz)), yStay, aOut, aVar, yArg, (fun zz => nI (FC zz)), (fun zz => nI (FA zz)), (fun zz => nI (FP zz)), (fun zz => nI (FH zz)), yHan, (fun zz => nI (FT zz)), (fun zz => nI (TA zz)), (fun zz => nI (TH zz)), fSelf, yKept, stk) → wpY_add post (nI n, nI m, yGiven, nI 0, deep, nI b, thr, thn, res, cStr, (fun zz => nI (CL zz)), cOp, cA, cB, (fun zz => nI (OK zz)), oKin, yCo, yAr, oOpen, (fun zz => nI (M zz)), (fun zz => ob_yf (tw zz) (te zz) (tc zz)), yPair, ySeen, pVal, ySet, (fun zz => ob_th (S zz)), yStay, aOut, aVar, yArg, (fun zz => nI (FC zz)), (fun zz => nI (FA zz)), (fun zz => nI (FP zz)), (fun zz => nI (FH zz)), yHan, (fun zz => nI (FT zz)), (fun zz => nI (TA zz)), (fun zz => nI (TH zz)), fSelf, yKept, stk) (nI c) v2 v3 v4 := by
      intro h post hp
      unfold wpY_add
      exact ob_inT (b := 0) (c := 7) (by omega) (by omega) (by decide) _ (br_f (by decide) (ob_inF h _ (br_t rfl hp)))
    rcases pk_ix v2 (n := 32) (by decide) with h | h | ⟨q, hq, rfl⟩
    · unfold wpX_isInstruction
      exact br_t h (br_t rfl (hYop (Or.inl h) _ ⟨rfl, J⟩))
    · have h0 : ¬ v2 < 0 := fun z => absurd (Int32.lt_of_le_of_lt h z) (by decide)
      have h31 : 31 < v2 := Int32.lt_of_lt_of_le (by decide) h
      unfold wpX_isInstruction
      exact br_f h0 (br_f (Int32.not_le.mpr h31) (br_t rfl (hYop (Or.inr h31) _ ⟨rfl, J⟩)))
    · refine ob_insX hq v3 v4 _ (fun hA hB => br_f (by decide) ⟨hin, ?_⟩) (fun hno => br_t rfl ?_)
      · rw [ob_cl (by omega)]
        have hin5 : CL c < 24 → vp_in (nI (24 * c + CL c)) 192 := fun h => vp_in_nI (by omega) (by decide)
        have hcl5 : (nI (24 * c + CL c)).toNatClampNeg = 24 * c + CL c := ob_cl (by omega)
        by_cases h24 : CL c < 24
        · have hin5 := hin5 h24
          have R2 : ob_R n 0 b m res thr thn (ob_um CL c (CL c + 1)) (upd cOp (24 * c + CL c) (nI q)) (upd cA (24 * c + CL c) v3) (upd cB (24 * c + CL c) v4) OK oKin pVal aOut aVar FC FA FP FH FT fSelf stk TA TH xFc xFs xPc xKo xPk tw tc xSet S XH xHeld yCo yAr M yPair ySet yStay yHan yKept := by
            obtain ⟨hC, hO, hP, hL, hY, hA', hF, hT⟩ := R
            refine ⟨fun c' hc' => ?_, hO, hP, hL, hY, hA', hF, hT⟩
            obtain ⟨hl', hok'⟩ := hC c' hc'
            by_cases z : c' = c
            · subst z
              rw [ob_um_s]
              refine ⟨by omega, fun j hj => ?_⟩
              by_cases y : j = CL c'
              · subst y
                rw [pk_us, pk_us, pk_us]
                exact ⟨q, hq, rfl, hA, hB⟩
              · rw [pk_un (by omega), pk_un (by omega), pk_un (by omega)]
                exact hok' j (by omega)
            · rw [ob_um_n _ _ z]
              refine ⟨hl', fun j hj => ?_⟩
              rw [pk_un (by omega), pk_un (by omega), pk_un (by omega)]
              exact hok' j hj
          have K : i_Rel (k + 6) _ _ := ob_E_mk (deep := deep) (cStr := cStr) (oOpen := oOpen) (te := te) (xArg := xArg) (ySeen := ySeen) (yArg := yArg) (yGiven := yGiven) R2 (by omega : m ≤ 300 * (k + 6))
          refine nm_e (br_t (nI_lt (b := 24) h24 (by decide)) (nm_r (ob_ix24 _ _) ⟨hin5, ?_⟩))
          rw [hcl5]
          refine nm_e ⟨hin5, nm_e ⟨hin5, nm_e ⟨hin, nm_r (e' := fun zz => nI (ob_um CL c (CL c + 1) zz)) (by rw [nI_1]; exact ob_uN _ _ _) ?_⟩⟩⟩
          refine ob_insY hq hc v3 v4 _ hl (fun _ _ => ?_) (fun hno => absurd ⟨hA, hB⟩ hno)
          unfold wY_add_79
          refine ⟨hin, ?_⟩
          rw [ob_cl (by omega)]
          refine br_f (fun z => by have := (nI_eq (b := 24) (by omega) (by decide)).mp z; omega) ⟨hin5, ?_⟩
          rw [hcl5]
          refine nm_e ⟨hin5, nm_e ⟨hin5, nm_e ⟨hin, hin, nm_r (e' := fun zz => nI (ob_um CL c (CL c + 1) zz)) (by rw [nI_1]; exact ob_uN _ _ _) ⟨rfl, K⟩⟩⟩⟩
        · have h24' : CL c = 24 := by omega
          refine nm_e (br_f (nI_nlt (b := 24) (by omega) (by omega)) ?_)
          refine ob_insY hq hc v3 v4 _ hl (fun _ _ => ?_) (fun hno => absurd ⟨hA, hB⟩ hno)
          unfold wY_add_79
          refine ⟨hin, ?_⟩
          rw [ob_cl (by omega)]
          exact br_t (congrArg nI h24') ⟨rfl, J⟩
      · exact ob_insY hq hc v3 v4 _ hl (fun hA hB => absurd ⟨hA, hB⟩ hno) (fun _ => ⟨rfl, J⟩)
theorem i_vc_make {k : Nat} {u : SX} {v : SY} (I : i_Rel k u v) (hk : k + 6 ≤ 3072) (v1 : Int32) (v2 : Int32) : wpX_make (fun r u' => wpY_make (fun r' v' => r' = r ∧ i_Rel (k + 6) u' v') v v1 v2) u v1 v2 := by
  have J := i_up I
  obtain ⟨n, b, m, deep, res, thr, thn, CL, cStr, cOp, cA, cB, OK, oKin, oOpen, pVal, aOut, aVar, FC, FA, FP, FH, FT, fSelf, stk, TA, TH, xFc, xFs, xPc, xKo, xPk, tw, te, tc, xSet, S, XH, xHeld, xArg, yCo, yAr, M, yPair, ySeen, ySet, yStay, yArg, yHan, yKept, yGiven, rfl, rfl, R, hm⟩ := I
  have h3 := R.2.1.1
  unfold wpX_make
  by_cases e0 : v1 = 0
  · subst e0
    have hXno : ∀ post : Int32 → SX → Prop, post (-1) (nI n, nI 0, nI b, deep, res, thr, thn, (fun zz => nI (CL zz)), cStr, cOp, cA, cB, (fun zz => nI (OK zz)), oKin, oOpen, xFc, xFs, xPc, xKo, xPk, (fun zz => ob_xa (tw zz) (te zz) (tc zz)), pVal, xSet, (fun zz => nI (S zz)), aOut, aVar, (fun zz => nI (FC zz)), (fun zz => nI (FP zz)), (fun zz => nI (FA zz)), (fun zz => nI (FH zz)), (fun zz => nI (XH zz)), (fun zz => nI (FT zz)), fSelf, xHeld, stk, (fun zz => nI (TA zz)), (fun zz => nI (TH zz)), xArg) → wX_make_21 post 0 v2 (nI n) (nI 0) (nI b) deep res thr thn (fun zz => nI (CL zz)) cStr cOp cA cB (fun zz => nI (OK zz)) oKin oOpen xFc xFs xPc xKo xPk (fun zz => ob_xa (tw zz) (te zz) (tc zz)) pVal xSet (fun zz => nI (S zz)) aOut aVar (fun zz => nI (FC zz)) (fun zz => nI (FP zz)) (fun zz => nI (FA zz)) (fun zz => nI (FH zz)) (fun zz => nI (XH zz)) (fun zz => nI (FT zz)) fSelf xHeld stk (fun zz => nI (TA zz)) (fun zz => nI (TH zz)) xArg := by
      intro post hp
      unfold wX_make_21 wX_make_22 wX_make_42 wX_make_43 wX_make_64 wX_make_65
      exact br_f (by decide) (br_f (by decide) (br_t rfl (br_t rfl (br_t rfl hp))))
    have hYin : ∀ post : Int32 → SY → Prop, wY_make_44 post 0 v2 (nI n - 1) (-1) v2 (nI n) (nI m) yGiven (nI 0) deep (nI b) thr thn res cStr (fun zz => nI (CL zz)) cOp cA cB (fun zz => nI (OK zz)) oKin yCo yAr oOpen (fun zz => nI (M zz)) (fun zz => ob_yf (tw zz) (te zz) (tc zz)) yPair ySeen pVal ySet (fun zz => ob_th (S zz)) yStay aOut aVar yArg (fun zz => nI (FC zz)) (fun zz => nI (FA zz)) (fun zz => nI (FP zz)) (fun zz => nI (FH zz)) yHan (fun zz => nI (FT zz)) (fun zz => nI (TA zz)) (fun zz => nI (TH zz)) fSelf yKept stk → wpY_make post (nI n, nI m, yGiven, nI 0, deep, nI b, thr, thn, res, cStr, (fun zz => nI (CL zz)), cOp, cA, cB, (fun zz => nI (OK zz)), oKin, yCo, yAr, oOpen, (fun zz => nI (M zz)), (fun zz => ob_yf (tw zz) (te zz) (tc zz)), yPair, ySeen, pVal, ySet, (fun zz => ob_th (S zz)), yStay, aOut, aVar, yArg, (fun zz => nI (FC zz)), (fun zz => nI (FA zz)), (fun zz => nI (FP zz)), (fun zz => nI (FH zz)), yHan, (fun zz => nI (FT zz)), (fun zz => nI (TA zz)), (fun zz => nI (TH zz)), fSelf, yKept, stk) 0 v2 := by
      intro post hp
      unfold wpY_make
      refine ob_inT (a := 0) (b := 0) (c := 2) (by omega) (by omega) (by decide) _ (br_f (by decide) (br_t rfl ?_))
      unfold wY_make_19
      exact br_t rfl hp
    have hcl : (v2 < -1 ∨ nI n ≤ v2) ∨ (¬ v2 < -1 ∧ ¬ nI n ≤ v2 ∧ (v2 = -1 ∨ ∃ p, p < n ∧ v2 = nI p)) := by
      by_cases h1 : v2 < -1
      · exact Or.inl (Or.inl h1)
      by_cases h2 : nI n ≤ v2
      · exact Or.inl (Or.inr h2)
      refine Or.inr ⟨h1, h2, ?_⟩
      rcases ob_isO R.2.1 v2 with h | h | h
      · exact Or.inr h
      · left
        apply Int32.toInt_inj.mp
        rw [Int32.lt_iff_toInt_lt] at h h1
        rw [show (0 : Int32).toInt = 0 from by decide] at h
        rw [show (-1 : Int32).toInt = -1 from by decide] at h1 ⊢
        omega
      · exact absurd h h2
    rcases hcl with h | ⟨h1, h2, hpr⟩
    · have hY : ∀ post : Int32 → SY → Prop, post (-1) (nI n, nI m, yGiven, nI 0, deep, nI b, thr, thn, res, cStr, (fun zz => nI (CL zz)), cOp, cA, cB, (fun zz => nI (OK zz)), oKin, yCo, yAr, oOpen, (fun zz => nI (M zz)), (fun zz => ob_yf (tw zz) (te zz) (tc zz)), yPair, ySeen, pVal, ySet, (fun zz => ob_th (S zz)), yStay, aOut, aVar, yArg, (fun zz => nI (FC zz)), (fun zz => nI (FA zz)), (fun zz => nI (FP zz)), (fun zz => nI (FH zz)), yHan, (fun zz => nI (FT zz)), (fun zz => nI (TA zz)), (fun zz => nI (TH zz)), fSelf, yKept, stk) → wpY_make post (nI n, nI m, yGiven, nI 0, deep, nI b, thr, thn, res, cStr, (fun zz => nI (CL zz)), cOp, cA, cB, (fun zz => nI (OK zz)), oKin, yCo, yAr, oOpen, (fun zz => nI (M zz)), (fun zz => ob_yf (tw zz) (te zz) (tc zz)), yPair, ySeen, pVal, ySet, (fun zz => ob_th (S zz)), yStay, aOut, aVar, yArg, (fun zz => nI (FC zz)), (fun zz => nI (FA zz)), (fun zz => nI (FP zz)), (fun zz => nI (FH zz)), yHan, (fun zz => nI (FT zz)), (fun zz => nI (TA zz)), (fun zz => nI (TH zz)), fSelf, yKept, stk) 0 v2 := by
        intro post hp
        refine hYin post ?_
        unfold wY_make_44
        exact ob_inF (h.imp id (ob_nle1 (by omega) (by omega))) _ (br_t rfl hp)
      refine br_t rfl ?_
      by_cases h1 : v2 < -1
      · exact br_t h1 (hXno _ (hY _ ⟨rfl, J⟩))
      · exact br_f h1 (br_t (h.resolve_left h1) (hXno _ (hY _ ⟨rfl, J⟩)))
    · have hYok : ∀ post : Int32 → SY → Prop, ((nI n = 32 → post (-2) (nI n, nI m, yGiven, nI 0, deep, nI b, thr, thn, res, cStr, (fun zz => nI (CL zz)), cOp, cA, cB, (fun zz => nI (OK zz)), oKin, yCo, yAr, oOpen, (fun zz => nI (M zz)), (fun zz => ob_yf (tw zz) (te zz) (tc zz)), yPair, ySeen, pVal, ySet, (fun zz => ob_th (S zz)), yStay, aOut, aVar, yArg, (fun zz => nI (FC zz)), (fun zz => nI (FA zz)), (fun zz => nI (FP zz)), (fun zz => nI (FH zz)), yHan, (fun zz => nI (FT zz)), (fun zz => nI (TA zz)), (fun zz => nI (TH zz)), fSelf, yKept, stk)) ∧ (¬ nI n = 32 → wY_make_84 post 0 v2 v2 0 (nI n) (nI m) yGiven (nI 0) deep (nI b) thr thn res cStr (fun zz => nI (CL zz)) cOp cA cB (fun zz => nI (OK zz)) oKin yCo yAr oOpen (fun zz => nI (M zz)) (fun zz => ob_yf (tw zz) (te zz) (tc zz)) yPair ySeen pVal ySet (fun zz => ob_th (S zz)) yStay aOut aVar yArg (fun zz => nI (FC zz)) (fun zz => nI (FA zz)) (fun zz => nI (FP zz)) (fun zz => nI (FH zz)) yHan (fun zz => nI (FT zz)) (fun zz => nI (TA zz)) (fun zz => nI (TH zz)) fSelf yKept stk)) → wpY_make post (nI n, nI m, yGiven, nI 0, deep, nI b, thr, thn, res, cStr, (fun zz => nI (CL zz)), cOp, cA, cB, (fun zz => nI (OK zz)), oKin, yCo, yAr, oOpen, (fun zz => nI (M zz)), (fun zz => ob_yf (tw zz) (te zz) (tc zz)), yPair, ySeen, pVal, ySet, (fun zz => ob_th (S zz)), yStay, aOut, aVar, yArg, (fun zz => nI (FC zz)), (fun zz => nI (FA zz)), (fun zz => nI (FP zz)), (fun zz => nI (FH zz)), yHan, (fun zz => nI (FT zz)), (fun zz => nI (TA zz)), (fun zz => nI (TH zz)), fSelf, yKept, stk) 0 v2 := by
        intro post hp
        refine hYin post ?_
        unfold wY_make_44
        have hnlt : ¬ nI n - 1 < v2 := by
          rw [ob_sub1 (by omega)]
          rcases hpr with rfl | ⟨p, hp, rfl⟩
          · intro z
            have := Int32.lt_trans z (show (-1 : Int32) < 0 from by decide)
            exact nI_pos (by omega) this
          · exact nI_nlt (by omega) (by omega)
        refine br_f h1 (br_f hnlt (br_f (by decide) ?_))
        by_cases h32 : nI n = 32
        · exact br_t h32 (hp.1 h32)
        · exact br_f h32 (br_t rfl (hp.2 h32))
      refine br_t rfl (br_f h1 (br_f h2 ?_))
      unfold wX_make_22 wX_make_42 wX_make_43 wX_make_64 wX_make_65 wX_make_83
      refine br_f (by decide) (br_f (by decide) (br_f (by decide) (br_f (by decide) ?_)))
      by_cases h32 : n = 32
      · refine ob_newXf h32 _ ?_
        unfold wX_make_121
        exact br_f (by decide) (hYok _ (br_t (by rw [h32]; rfl) ⟨rfl, J⟩))
      · have R1 := ob_newR (kd := 0) (pr := v2) (xFc' := xFc) (xFs' := xFs) (yCo' := upd yCo n v2) (yAr' := upd yAr n (-1)) R (by omega) hpr (by decide) (by decide) (fun q hq => ⟨rfl, rfl, pk_un (by omega), pk_un (by omega)⟩) (fun h => absurd h (by decide))
        have K : i_Rel (k + 6) _ _ := ob_E_mk (deep := deep) (cStr := cStr) (oOpen := (upd oOpen n 1)) (te := te) (xArg := xArg) (ySeen := ySeen) (yArg := yArg) (yGiven := yGiven) R1 (by omega : m ≤ 300 * (k + 6))
        refine ob_newX (kd := 0) (by omega) _ ?_
        unfold wX_make_121
        refine br_t (nI_pos' (by omega)) (hYok _ (br_f (fun z => h32 ((nI_eq (b := 32) (by omega) (by decide)).mp z)) ?_))
        unfold wY_make_84
        refine ob_newY (kd := 0) (by omega) (by decide) (by decide) _ (br_f (by decide) ⟨vp_in_nI (by omega) (by decide), ?_⟩)
        rw [ob_cl (by omega)]
        exact nm_e ⟨rfl, K⟩
  refine br_f e0 ?_
  unfold wX_make_21 wX_make_22
  by_cases e1 : v1 = 1
  · subst e1
    have hYin : ∀ post : Int32 → SY → Prop, wY_make_44 post 1 v2 16 0 v2 (nI n) (nI m) yGiven (nI 0) deep (nI b) thr thn res cStr (fun zz => nI (CL zz)) cOp cA cB (fun zz => nI (OK zz)) oKin yCo yAr oOpen (fun zz => nI (M zz)) (fun zz => ob_yf (tw zz) (te zz) (tc zz)) yPair ySeen pVal ySet (fun zz => ob_th (S zz)) yStay aOut aVar yArg (fun zz => nI (FC zz)) (fun zz => nI (FA zz)) (fun zz => nI (FP zz)) (fun zz => nI (FH zz)) yHan (fun zz => nI (FT zz)) (fun zz => nI (TA zz)) (fun zz => nI (TH zz)) fSelf yKept stk → wpY_make post (nI n, nI m, yGiven, nI 0, deep, nI b, thr, thn, res, cStr, (fun zz => nI (CL zz)), cOp, cA, cB, (fun zz => nI (OK zz)), oKin, yCo, yAr, oOpen, (fun zz => nI (M zz)), (fun zz => ob_yf (tw zz) (te zz) (tc zz)), yPair, ySeen, pVal, ySet, (fun zz => ob_th (S zz)), yStay, aOut, aVar, yArg, (fun zz => nI (FC zz)), (fun zz => nI (FA zz)), (fun zz => nI (FP zz)), (fun zz => nI (FH zz)), yHan, (fun zz => nI (FT zz)), (fun zz => nI (TA zz)), (fun zz => nI (TH zz)), fSelf, yKept, stk) 1 v2 := by
      intro post hp
      unfold wpY_make
      refine ob_inT (a := 1) (b := 0) (c := 2) (by omega) (by omega) (by decide) _ (br_f (by decide) (br_f (by decide) ?_))
      unfold wY_make_19
      exact br_f (by decide) (br_t rfl hp)
    refine br_t rfl ?_
    rcases ob_rgA (a := v2) (g := 16) (by decide) with ⟨l, hl, rfl⟩ | ⟨h, _⟩
    · refine br_f (nI_pos (by omega)) (br_f (nI_nlt (a := 16) hl (by decide)) ?_)
      have hYok : ∀ post : Int32 → SY → Prop, ((nI n = 32 → post (-2) (nI n, nI m, yGiven, nI 0, deep, nI b, thr, thn, res, cStr, (fun zz => nI (CL zz)), cOp, cA, cB, (fun zz => nI (OK zz)), oKin, yCo, yAr, oOpen, (fun zz => nI (M zz)), (fun zz => ob_yf (tw zz) (te zz) (tc zz)), yPair, ySeen, pVal, ySet, (fun zz => ob_th (S zz)), yStay, aOut, aVar, yArg, (fun zz => nI (FC zz)), (fun zz => nI (FA zz)), (fun zz => nI (FP zz)), (fun zz => nI (FH zz)), yHan, (fun zz => nI (FT zz)), (fun zz => nI (TA zz)), (fun zz => nI (TH zz)), fSelf, yKept, stk)) ∧ (¬ nI n = 32 → wY_make_84 post 1 (nI l) 2 1 (nI n) (nI m) yGiven (nI 0) deep (nI b) thr thn res cStr (fun zz => nI (CL zz)) cOp cA cB (fun zz => nI (OK zz)) oKin yCo yAr oOpen (fun zz => nI (M zz)) (fun zz => ob_yf (tw zz) (te zz) (tc zz)) yPair ySeen pVal ySet (fun zz => ob_th (S zz)) yStay aOut aVar yArg (fun zz => nI (FC zz)) (fun zz => nI (FA zz)) (fun zz => nI (FP zz)) (fun zz => nI (FH zz)) yHan (fun zz => nI (FT zz)) (fun zz => nI (TA zz)) (fun zz => nI (TH zz)) fSelf yKept stk)) → wpY_make post (nI n, nI m, yGiven, nI 0, deep, nI b, thr, thn, res, cStr, (fun zz => nI (CL zz)), cOp, cA, cB, (fun zz => nI (OK zz)), oKin, yCo, yAr, oOpen, (fun zz => nI (M zz)), (fun zz => ob_yf (tw zz) (te zz) (tc zz)), yPair, ySeen, pVal, ySet, (fun zz => ob_th (S zz)), yStay, aOut, aVar, yArg, (fun zz => nI (FC zz)), (fun zz => nI (FA zz)), (fun zz => nI (FP zz)), (fun zz => nI (FH zz)), yHan, (fun zz => nI (FT zz)), (fun zz => nI (TA zz)), (fun zz => nI (TH zz)), fSelf, yKept, stk) 1 (nI l) := by
        intro post hp
        refine hYin post ?_
        unfold wY_make_44
        refine ob_inT (b := 0) (c := 16) (by omega) hl (by decide) _ (br_f (by decide) ?_)
        by_cases h32 : nI n = 32
        · exact br_t h32 (hp.1 h32)
        · exact br_f h32 (br_f (by decide) (br_t rfl (hp.2 h32)))
      unfold wX_make_43 wX_make_64 wX_make_65 wX_make_83
      refine br_f (by decide) (br_t rfl (br_f (by decide) (br_t rfl (br_f (by decide) ?_))))
      by_cases h32 : n = 32
      · refine ob_arrXf h32 _ ?_
        unfold wX_make_121
        exact br_f (by decide) (hYok _ (br_t (by rw [h32]; rfl) ⟨rfl, J⟩))
      · have R1 := ob_arrR (l := l) (yCo' := upd yCo n (nI l)) R (by omega) hl (fun q hq => pk_un (by omega))
        have K : i_Rel (k + 6) _ _ := ob_E_mk (deep := deep) (cStr := cStr) (oOpen := (upd oOpen n 1)) (te := (ob_ub te (32 * n + 16) false)) (xArg := xArg) (ySeen := ySeen) (yArg := yArg) (yGiven := yGiven) R1 (by omega : m + 1 ≤ 300 * (k + 6))
        refine ob_arrX (by omega) hl _ ?_
        unfold wX_make_121
        refine br_t (nI_pos' (by omega)) (hYok _ (br_f (fun z => h32 ((nI_eq (b := 32) (by omega) (by decide)).mp z)) ?_))
        unfold wY_make_84
        have e16 : 32 * nI n + 16 = nI (32 * n + 16) := ob_iy n 16
        refine ob_newYa (by omega) _ (br_t rfl ?_)
        rw [e16, ob_cl (by omega), nI_l (by omega), ob_cl (by omega)]
        exact ⟨vp_in_nI (by omega) (by decide), nm_r ob_uuL ⟨vp_in_nI (by omega) (by decide), nm_e ⟨rfl, K⟩⟩⟩
    · have hX42 : ∀ post : Int32 → SX → Prop, post (-1) (nI n, nI 0, nI b, deep, res, thr, thn, (fun zz => nI (CL zz)), cStr, cOp, cA, cB, (fun zz => nI (OK zz)), oKin, oOpen, xFc, xFs, xPc, xKo, xPk, (fun zz => ob_xa (tw zz) (te zz) (tc zz)), pVal, xSet, (fun zz => nI (S zz)), aOut, aVar, (fun zz => nI (FC zz)), (fun zz => nI (FP zz)), (fun zz => nI (FA zz)), (fun zz => nI (FH zz)), (fun zz => nI (XH zz)), (fun zz => nI (FT zz)), fSelf, xHeld, stk, (fun zz => nI (TA zz)), (fun zz => nI (TH zz)), xArg) → wX_make_42 post 1 v2 0 (nI n) (nI 0) (nI b) deep res thr thn (fun zz => nI (CL zz)) cStr cOp cA cB (fun zz => nI (OK zz)) oKin oOpen xFc xFs xPc xKo xPk (fun zz => ob_xa (tw zz) (te zz) (tc zz)) pVal xSet (fun zz => nI (S zz)) aOut aVar (fun zz => nI (FC zz)) (fun zz => nI (FP zz)) (fun zz => nI (FA zz)) (fun zz => nI (FH zz)) (fun zz => nI (XH zz)) (fun zz => nI (FT zz)) fSelf xHeld stk (fun zz => nI (TA zz)) (fun zz => nI (TH zz)) xArg := by
        intro post hp
        unfold wX_make_42 wX_make_43 wX_make_64 wX_make_65
        exact br_f (by decide) (br_t rfl (br_t rfl (br_t rfl hp)))
      have hY : ∀ post : Int32 → SY → Prop, post (-1) (nI n, nI m, yGiven, nI 0, deep, nI b, thr, thn, res, cStr, (fun zz => nI (CL zz)), cOp, cA, cB, (fun zz => nI (OK zz)), oKin, yCo, yAr, oOpen, (fun zz => nI (M zz)), (fun zz => ob_yf (tw zz) (te zz) (tc zz)), yPair, ySeen, pVal, ySet, (fun zz => ob_th (S zz)), yStay, aOut, aVar, yArg, (fun zz => nI (FC zz)), (fun zz => nI (FA zz)), (fun zz => nI (FP zz)), (fun zz => nI (FH zz)), yHan, (fun zz => nI (FT zz)), (fun zz => nI (TA zz)), (fun zz => nI (TH zz)), fSelf, yKept, stk) → wpY_make post (nI n, nI m, yGiven, nI 0, deep, nI b, thr, thn, res, cStr, (fun zz => nI (CL zz)), cOp, cA, cB, (fun zz => nI (OK zz)), oKin, yCo, yAr, oOpen, (fun zz => nI (M zz)), (fun zz => ob_yf (tw zz) (te zz) (tc zz)), yPair, ySeen, pVal, ySet, (fun zz => ob_th (S zz)), yStay, aOut, aVar, yArg, (fun zz => nI (FC zz)), (fun zz => nI (FA zz)), (fun zz => nI (FP zz)), (fun zz => nI (FH zz)), yHan, (fun zz => nI (FT zz)), (fun zz => nI (TA zz)), (fun zz => nI (TH zz)), fSelf, yKept, stk) 1 v2 := by
        intro post hp
        refine hYin post ?_
        unfold wY_make_44
        exact ob_inF h _ (br_t rfl hp)
      by_cases h0 : v2 < 0
      · exact br_t h0 (hX42 _ (hY _ ⟨rfl, J⟩))
      · exact br_f h0 (br_t (h.resolve_left h0) (hX42 _ (hY _ ⟨rfl, J⟩)))
  refine br_f e1 ?_
  unfold wX_make_42 wX_make_43
  by_cases e2 : v1 = 2
  · subst e2
    have hYin : ∀ post : Int32 → SY → Prop, wY_make_44 post 2 v2 7 0 v2 (nI n) (nI m) yGiven (nI 0) deep (nI b) thr thn res cStr (fun zz => nI (CL zz)) cOp cA cB (fun zz => nI (OK zz)) oKin yCo yAr oOpen (fun zz => nI (M zz)) (fun zz => ob_yf (tw zz) (te zz) (tc zz)) yPair ySeen pVal ySet (fun zz => ob_th (S zz)) yStay aOut aVar yArg (fun zz => nI (FC zz)) (fun zz => nI (FA zz)) (fun zz => nI (FP zz)) (fun zz => nI (FH zz)) yHan (fun zz => nI (FT zz)) (fun zz => nI (TA zz)) (fun zz => nI (TH zz)) fSelf yKept stk → wpY_make post (nI n, nI m, yGiven, nI 0, deep, nI b, thr, thn, res, cStr, (fun zz => nI (CL zz)), cOp, cA, cB, (fun zz => nI (OK zz)), oKin, yCo, yAr, oOpen, (fun zz => nI (M zz)), (fun zz => ob_yf (tw zz) (te zz) (tc zz)), yPair, ySeen, pVal, ySet, (fun zz => ob_th (S zz)), yStay, aOut, aVar, yArg, (fun zz => nI (FC zz)), (fun zz => nI (FA zz)), (fun zz => nI (FP zz)), (fun zz => nI (FH zz)), yHan, (fun zz => nI (FT zz)), (fun zz => nI (TA zz)), (fun zz => nI (TH zz)), fSelf, yKept, stk) 2 v2 := by
      intro post hp
      unfold wpY_make
      refine ob_inT (a := 2) (b := 0) (c := 2) (by omega) (by omega) (by decide) _ (br_f (by decide) (br_f (by decide) ?_))
      unfold wY_make_19
      exact br_f (by decide) (br_f (by decide) hp)
    refine br_t rfl ?_
    rcases ob_rgA (a := v2) (g := 7) (by decide) with ⟨c, hc, rfl⟩ | ⟨h, _⟩
    · refine br_f (nI_pos (by omega)) (br_f (nI_ge (b := 8) (by omega) (by decide)) ?_)
      have hYok : ∀ post : Int32 → SY → Prop, ((nI n = 32 → post (-2) (nI n, nI m, yGiven, nI 0, deep, nI b, thr, thn, res, cStr, (fun zz => nI (CL zz)), cOp, cA, cB, (fun zz => nI (OK zz)), oKin, yCo, yAr, oOpen, (fun zz => nI (M zz)), (fun zz => ob_yf (tw zz) (te zz) (tc zz)), yPair, ySeen, pVal, ySet, (fun zz => ob_th (S zz)), yStay, aOut, aVar, yArg, (fun zz => nI (FC zz)), (fun zz => nI (FA zz)), (fun zz => nI (FP zz)), (fun zz => nI (FH zz)), yHan, (fun zz => nI (FT zz)), (fun zz => nI (TA zz)), (fun zz => nI (TH zz)), fSelf, yKept, stk)) ∧ (¬ nI n = 32 → wY_make_84 post 2 (nI c) 1 2 (nI n) (nI m) yGiven (nI 0) deep (nI b) thr thn res cStr (fun zz => nI (CL zz)) cOp cA cB (fun zz => nI (OK zz)) oKin yCo yAr oOpen (fun zz => nI (M zz)) (fun zz => ob_yf (tw zz) (te zz) (tc zz)) yPair ySeen pVal ySet (fun zz => ob_th (S zz)) yStay aOut aVar yArg (fun zz => nI (FC zz)) (fun zz => nI (FA zz)) (fun zz => nI (FP zz)) (fun zz => nI (FH zz)) yHan (fun zz => nI (FT zz)) (fun zz => nI (TA zz)) (fun zz => nI (TH zz)) fSelf yKept stk)) → wpY_make post (nI n, nI m, yGiven, nI 0, deep, nI b, thr, thn, res, cStr, (fun zz => nI (CL zz)), cOp, cA, cB, (fun zz => nI (OK zz)), oKin, yCo, yAr, oOpen, (fun zz => nI (M zz)), (fun zz => ob_yf (tw zz) (te zz) (tc zz)), yPair, ySeen, pVal, ySet, (fun zz => ob_th (S zz)), yStay, aOut, aVar, yArg, (fun zz => nI (FC zz)), (fun zz => nI (FA zz)), (fun zz => nI (FP zz)), (fun zz => nI (FH zz)), yHan, (fun zz => nI (FT zz)), (fun zz => nI (TA zz)), (fun zz => nI (TH zz)), fSelf, yKept, stk) 2 (nI c) := by
        intro post hp
        refine hYin post ?_
        unfold wY_make_44
        refine ob_inT (b := 0) (c := 7) (by omega) hc (by decide) _ (br_f (by decide) ?_)
        by_cases h32 : nI n = 32
        · exact br_t h32 (hp.1 h32)
        · exact br_f h32 (br_f (by decide) (br_f (by decide) (hp.2 h32)))
      unfold wX_make_65 wX_make_83 wpX_newFunction
      refine br_t rfl (br_t rfl (br_f (by decide) (br_t rfl (br_t rfl ?_))))
      by_cases h32 : n = 32
      · refine ob_newXf h32 _ (br_t (by decide) ?_)
        unfold wX_make_121
        exact br_f (by decide) (hYok _ (br_t (by rw [h32]; rfl) ⟨rfl, J⟩))
      · have R1 := ob_newR (kd := 2) (pr := 1) (xFc' := upd xFc n (nI c)) (xFs' := upd xFs n (-1)) (yCo' := upd yCo n (nI c)) (yAr' := upd yAr n (-1)) R (by omega) (Or.inr ⟨1, by omega, rfl⟩) (by decide) (by decide) (fun q hq => ⟨pk_un (by omega), pk_un (by omega), pk_un (by omega), pk_un (by omega)⟩) (fun _ => ⟨by rw [pk_us, pk_us], ⟨c, by omega, pk_us⟩, by rw [pk_us, pk_us], by rw [pk_us]; exact Or.inl rfl⟩)
        have K : i_Rel (k + 6) _ _ := ob_E_mk (deep := deep) (cStr := cStr) (oOpen := (upd oOpen n 1)) (te := te) (xArg := xArg) (ySeen := ySeen) (yArg := yArg) (yGiven := yGiven) R1 (by omega : m ≤ 300 * (k + 6))
        refine ob_newX (kd := 2) (by omega) _ (br_f (nI_pos (by omega)) ⟨vp_in_nI (by omega) (by decide), ?_⟩)
        rw [ob_cl (by omega)]
        refine nm_e ⟨vp_in_nI (by omega) (by decide), nm_e ?_⟩
        unfold wX_make_121
        refine br_t (nI_pos' (by omega)) (hYok _ (br_f (fun z => h32 ((nI_eq (b := 32) (by omega) (by decide)).mp z)) ?_))
        unfold wY_make_84
        refine ob_newY (kd := 2) (by omega) (by decide) (by decide) _ (br_f (by decide) ⟨vp_in_nI (by omega) (by decide), ?_⟩)
        rw [ob_cl (by omega)]
        exact nm_e ⟨rfl, K⟩
    · have hX64 : ∀ post : Int32 → SX → Prop, post (-1) (nI n, nI 0, nI b, deep, res, thr, thn, (fun zz => nI (CL zz)), cStr, cOp, cA, cB, (fun zz => nI (OK zz)), oKin, oOpen, xFc, xFs, xPc, xKo, xPk, (fun zz => ob_xa (tw zz) (te zz) (tc zz)), pVal, xSet, (fun zz => nI (S zz)), aOut, aVar, (fun zz => nI (FC zz)), (fun zz => nI (FP zz)), (fun zz => nI (FA zz)), (fun zz => nI (FH zz)), (fun zz => nI (XH zz)), (fun zz => nI (FT zz)), fSelf, xHeld, stk, (fun zz => nI (TA zz)), (fun zz => nI (TH zz)), xArg) → wX_make_64 post v2 0 0 (nI n) (nI 0) (nI b) deep res thr thn (fun zz => nI (CL zz)) cStr cOp cA cB (fun zz => nI (OK zz)) oKin oOpen xFc xFs xPc xKo xPk (fun zz => ob_xa (tw zz) (te zz) (tc zz)) pVal xSet (fun zz => nI (S zz)) aOut aVar (fun zz => nI (FC zz)) (fun zz => nI (FP zz)) (fun zz => nI (FA zz)) (fun zz => nI (FH zz)) (fun zz => nI (XH zz)) (fun zz => nI (FT zz)) fSelf xHeld stk (fun zz => nI (TA zz)) (fun zz => nI (TH zz)) xArg := by
        intro post hp
        unfold wX_make_64 wX_make_65
        exact br_t rfl (br_t rfl (br_t rfl hp))
      have hY : ∀ post : Int32 → SY → Prop, post (-1) (nI n, nI m, yGiven, nI 0, deep, nI b, thr, thn, res, cStr, (fun zz => nI (CL zz)), cOp, cA, cB, (fun zz => nI (OK zz)), oKin, yCo, yAr, oOpen, (fun zz => nI (M zz)), (fun zz => ob_yf (tw zz) (te zz) (tc zz)), yPair, ySeen, pVal, ySet, (fun zz => ob_th (S zz)), yStay, aOut, aVar, yArg, (fun zz => nI (FC zz)), (fun zz => nI (FA zz)), (fun zz => nI (FP zz)), (fun zz => nI (FH zz)), yHan, (fun zz => nI (FT zz)), (fun zz => nI (TA zz)), (fun zz => nI (TH zz)), fSelf, yKept, stk) → wpY_make post (nI n, nI m, yGiven, nI 0, deep, nI b, thr, thn, res, cStr, (fun zz => nI (CL zz)), cOp, cA, cB, (fun zz => nI (OK zz)), oKin, yCo, yAr, oOpen, (fun zz => nI (M zz)), (fun zz => ob_yf (tw zz) (te zz) (tc zz)), yPair, ySeen, pVal, ySet, (fun zz => ob_th (S zz)), yStay, aOut, aVar, yArg, (fun zz => nI (FC zz)), (fun zz => nI (FA zz)), (fun zz => nI (FP zz)), (fun zz => nI (FH zz)), yHan, (fun zz => nI (FT zz)), (fun zz => nI (TA zz)), (fun zz => nI (TH zz)), fSelf, yKept, stk) 2 v2 := by
        intro post hp
        refine hYin post ?_
        unfold wY_make_44
        exact ob_inF h _ (br_t rfl hp)
      by_cases h0 : v2 < 0
      · exact br_t h0 (hX64 _ (hY _ ⟨rfl, J⟩))
      · refine br_f h0 (br_t ?_ (hX64 _ (hY _ ⟨rfl, J⟩)))
        have h7 := h.resolve_left h0
        rw [Int32.lt_iff_toInt_lt, show (nI 7).toInt = 7 from by decide] at h7
        rw [Int32.le_iff_toInt_le, show (8 : Int32).toInt = 8 from by decide]
        omega
  refine br_f e2 ?_
  unfold wX_make_64 wX_make_65
  refine br_t rfl (br_t rfl (br_t rfl ?_))
  unfold wpY_make
  have hno : v1 < 0 ∨ 2 < v1 := by
    rcases pk_ix v1 (n := 3) (by decide) with h | h | ⟨q, hq, rfl⟩
    · exact Or.inl h
    · exact Or.inr (Int32.lt_of_lt_of_le (by decide) h)
    · have : q = 0 ∨ q = 1 ∨ q = 2 := by omega
      rcases this with rfl | rfl | rfl
      · exact absurd rfl e0
      · exact absurd rfl e1
      · exact absurd rfl e2
  exact ob_inF hno _ (br_t rfl ⟨rfl, J⟩)
