/-! ===== arrays ===== -/
theorem ob_uF2 (tw te tc : Nat → Bool) (i : Nat) : upd (fun zz => ob_yf (tw zz) (te zz) (tc zz)) i 2 = fun zz => ob_yf (ob_ub tw i true zz) (ob_ub te i false zz) (ob_ub tc i false zz) := ob_uF tw te tc i true false false
theorem ob_uF50 (tw te tc : Nat → Bool) (i : Nat) : upd (fun zz => ob_yf (tw zz) (te zz) (tc zz)) i 50 = fun zz => ob_yf (ob_ub tw i true zz) (ob_ub te i true zz) (ob_ub tc i true zz) := ob_uF tw te tc i true true true
section
variable {n : Nat} {d : Nat} {b : Nat} {m : Nat} {deep : Int32} {res : Int64} {thr : Int32} {thn : Int64} {CL : Nat → Nat} {cStr : Nat → Int32} {cOp : Nat → Int32} {cA : Nat → Int32} {cB : Nat → Int32} {OK : Nat → Nat} {oKin : Nat → Int32} {oOpen : Nat → Int32} {pVal : Nat → Int64} {aOut : Nat → Int32} {aVar : Nat → Int64} {FC : Nat → Nat} {FA : Nat → Nat} {FP : Nat → Nat} {FH : Nat → Nat} {FT : Nat → Nat} {fSelf : Nat → Int64} {stk : Nat → Int64} {TA : Nat → Nat} {TH : Nat → Nat} {xFc : Nat → Int32} {xFs : Nat → Int32} {xPc : Nat → Int32} {xKo : Nat → Int32} {xPk : Nat → Int32} {tw : Nat → Bool} {te : Nat → Bool} {tc : Nat → Bool} {xSet : Nat → Int64} {S : Nat → Nat} {XH : Nat → Nat} {xHeld : Nat → Int64} {xArg : Nat → Int64} {yCo : Nat → Int32} {yAr : Nat → Int32} {M : Nat → Nat} {yPair : Nat → Int32} {ySeen : Nat → Int32} {ySet : Nat → Int64} {yStay : Nat → Int32} {yArg : Nat → Int64} {yHan : Nat → Int32} {yKept : Nat → Int64} {yGiven : Int32}
variable {e k o c l kd B w : Nat} {a bb pr : Int32} {yCo' : Nat → Int32}
theorem ob_newYa (hn : n < 32) (post : Int32 → SY → Prop) (hp : post (nI n) (nI (n+1), nI (m+1), yGiven, nI d, deep, nI b, thr, thn, res, cStr, (fun zz => nI (CL zz)), cOp, cA, cB, (fun zz => nI ((ob_um OK n 1) zz)), (upd oKin n pr), yCo, (upd yAr n (-1)), (upd oOpen n 1), (fun zz => nI ((ob_um M (32 * n + 16) (m + 1)) zz)), (fun zz => ob_yf ((ob_ub tw (32 * n + 16) true) zz) ((ob_ub te (32 * n + 16) false) zz) ((ob_ub tc (32 * n + 16) false) zz)), (upd yPair (32 * n + 16) 0), ySeen, (vp_updL pVal (32 * n + 16) 0), ySet, (fun zz => ob_th (S zz)), yStay, aOut, aVar, yArg, (fun zz => nI (FC zz)), (fun zz => nI (FA zz)), (fun zz => nI (FP zz)), (fun zz => nI (FH zz)), yHan, (fun zz => nI (FT zz)), (fun zz => nI (TA zz)), (fun zz => nI (TH zz)), fSelf, yKept, stk)) : wpY_create post (nI n, nI m, yGiven, nI d, deep, nI b, thr, thn, res, cStr, (fun zz => nI (CL zz)), cOp, cA, cB, (fun zz => nI (OK zz)), oKin, yCo, yAr, oOpen, (fun zz => nI (M zz)), (fun zz => ob_yf (tw zz) (te zz) (tc zz)), yPair, ySeen, pVal, ySet, (fun zz => ob_th (S zz)), yStay, aOut, aVar, yArg, (fun zz => nI (FC zz)), (fun zz => nI (FA zz)), (fun zz => nI (FP zz)), (fun zz => nI (FH zz)), yHan, (fun zz => nI (FT zz)), (fun zz => nI (TA zz)), (fun zz => nI (TH zz)), fSelf, yKept, stk) 1 pr := by
  have e16 : 32 * nI n + 16 = nI (32 * n + 16) := ob_iy n 16
  unfold wpY_create wpY_appear
  simp (disch := first | omega | decide) only [ob_nar1, ob_nar0, e16, ob_uN1, ob_uF2, forall_eq, not_true, not_false_iff, false_implies, true_implies, true_and, and_true, ob_sub1, Nat.add_sub_cancel, nI_1, ob_ix, ob_iy, ob_ix24, ob_iy24, ob_ix10, ob_iy10, ob_ix4, ob_iy4, ob_ix3, ob_iy3, ob_s1, ob_s2, ob_s3, ob_s4, ob_ltl, ob_lel, ob_eql, ob_ltr, ob_ler, ob_uN, Nat.add_one_ne_zero, ob_xs3, ob_lnn, ob_ltn, ob_eqn, Nat.not_lt_zero, Nat.zero_le, Nat.reduceEqDiff, Nat.reduceLeDiff, Nat.reduceLT, ob_eqll, Int32.reduceLT, Int32.reduceLE, eq_self_iff_true]
  exact hp
/-- an array is new: its LENGTH -/
theorem ob_arrR (R : ob_R n d b m res thr thn CL cOp cA cB OK oKin pVal aOut aVar FC FA FP FH FT fSelf stk TA TH xFc xFs xPc xKo xPk tw tc xSet S XH xHeld yCo yAr M yPair ySet yStay yHan yKept) (hn : n < 32) (hl : l ≤ 16) (hlo : ∀ q, q < n → yCo' q = yCo q) :
    ob_R (n+1) d b (m+1) res thr thn CL cOp cA cB (ob_um OK n 1) (upd oKin n 2) (vp_updL pVal (32 * n + 16) (lN l)) aOut aVar FC FA FP FH FT fSelf stk TA TH xFc xFs (upd (upd xPc n 0) n (nI (0 + 1))) (upd xKo (32 * n + 0) (nI 16)) (upd (ob_zk xPk n 32) (32 * n + 16) 1) (ob_ub tw (32 * n + 16) true) (ob_ub tc (32 * n + 16) false) (vp_updL xSet (32 * n + 16) 8589934592) S XH xHeld yCo' (upd yAr n (-1)) (ob_um M (32 * n + 16) (m + 1)) (upd yPair (32 * n + 16) 0) ySet yStay yHan yKept := by
  obtain ⟨hC, hO, hP, hL, hY, hA, hF, hT⟩ := R
  have h3 := hO.1
  have hMz : M (32 * n + 16) = 0 := hP.2.1 _ (by omega)
  obtain ⟨g1, g2, g3⟩ := ob_newG (kd := 1) (pr := 2) hO hP hL hn (Or.inr ⟨2, by omega, rfl⟩) (by decide)
  obtain ⟨c, hc, hpc, g4⟩ := ob_gL_add (o := n) (k := 16) g3 g2.1 (by omega) (by decide) hMz
  have hc0 : c = 0 := by
    rw [pk_us] at hpc
    exact ((nI_eq (a := 0) (by decide) (by omega)).mp hpc).symm
  subst hc0
  refine ⟨hC, g1, ?_, g4, ?_, ob_newA hA (fun q hq => ⟨rfl, rfl, hlo q hq, pk_un (by omega)⟩) (fun h => absurd h (by decide)), ob_gF_up (by omega) hF, ob_gT_up hT (by omega)⟩
  · refine ob_gP_c (i := 32 * n + 16) g2 (fun j => ?_) (fun j hj => ?_) (fun j hj hne => ?_) (fun _ => ?_)
    · unfold ob_um
      have := hP.1 j
      split <;> omega
    · rw [ob_um_n _ _ (by omega)]
      exact hP.2.1 j (by omega)
    · exact ⟨ob_um_n _ _ hne, pk_uLn hne, pk_un hne, ob_ub_n _ _ hne, pk_uLn hne, pk_un hne, rfl⟩
    · rw [ob_um_s, pk_uLs, pk_us, pk_us]
      exact Or.inr ⟨by omega, ob_lNV _ (by omega), Or.inl ⟨rfl, rfl⟩⟩
  · intro q hq h1
    by_cases z : q = n
    · subst z
      rw [ob_um_s, pk_us, ob_ub_s, pk_uLs]
      refine ⟨by omega, rfl, rfl, l, hl, rfl, fun j hj hj2 => ?_⟩
      rw [ob_um_n _ _ (by omega)]
      exact hP.2.1 _ (by omega)
    · rw [ob_um_n _ _ z] at h1
      obtain ⟨a1, a2, a3, l2, a4, a5, a6⟩ := hY q (by omega) h1
      refine ⟨by rw [ob_um_n _ _ (by omega)]; exact a1, by rw [pk_un (by omega)]; exact a2, by rw [ob_ub_n _ _ (by omega)]; exact a3, l2, a4, by rw [pk_uLn (by omega)]; exact a5, fun j hj hj2 => ?_⟩
      rw [ob_um_n _ _ (by omega)]
      exact a6 j hj hj2
/-- the component makes an array -/
theorem ob_arrX (hn : n < 32) (hl : l ≤ 16) (post : Int32 → SX → Prop) (hp : post (nI n) (nI (n+1), nI d, nI b, deep, res, thr, thn, (fun zz => nI (CL zz)), cStr, cOp, cA, cB, (fun zz => nI ((ob_um OK n 1) zz)), (upd oKin n 2), (upd oOpen n 1), xFc, xFs, (upd (upd xPc n 0) n (nI (0 + 1))), (upd xKo (32 * n + 0) (nI 16)), (upd (ob_zk xPk n 32) (32 * n + 16) 1), (fun zz => ob_xa ((ob_ub tw (32 * n + 16) true) zz) ((ob_ub te (32 * n + 16) false) zz) ((ob_ub tc (32 * n + 16) false) zz)), (vp_updL pVal (32 * n + 16) (lN l)), (vp_updL xSet (32 * n + 16) 8589934592), (fun zz => nI (S zz)), aOut, aVar, (fun zz => nI (FC zz)), (fun zz => nI (FP zz)), (fun zz => nI (FA zz)), (fun zz => nI (FH zz)), (fun zz => nI (XH zz)), (fun zz => nI (FT zz)), fSelf, xHeld, stk, (fun zz => nI (TA zz)), (fun zz => nI (TH zz)), xArg)) : wpX_newArray post (nI n, nI d, nI b, deep, res, thr, thn, (fun zz => nI (CL zz)), cStr, cOp, cA, cB, (fun zz => nI (OK zz)), oKin, oOpen, xFc, xFs, xPc, xKo, xPk, (fun zz => ob_xa (tw zz) (te zz) (tc zz)), pVal, xSet, (fun zz => nI (S zz)), aOut, aVar, (fun zz => nI (FC zz)), (fun zz => nI (FP zz)), (fun zz => nI (FA zz)), (fun zz => nI (FH zz)), (fun zz => nI (XH zz)), (fun zz => nI (FT zz)), fSelf, xHeld, stk, (fun zz => nI (TA zz)), (fun zz => nI (TH zz)), xArg) (nI l) := by
  unfold wpX_newArray
  refine ob_newX (kd := 1) hn _ ?_
  refine br_f (nI_pos (by omega)) ?_
  rw [nI_l (by omega)]
  refine ob_stXn (c := 0) (k := 16) (sV := true) (sG := false) (sS := false) (sW := true) (sE := false) (sC := false) (oW := true) (oE := false) (oC := false) hn (by decide) ?_ (by decide) pk_us _ hp
  unfold ob_zk
  rw [if_pos (by omega)]
theorem ob_arrXf (hn : n = 32) (post : Int32 → SX → Prop) (hp : post (-1) (nI n, nI d, nI b, deep, res, thr, thn, (fun zz => nI (CL zz)), cStr, cOp, cA, cB, (fun zz => nI (OK zz)), oKin, oOpen, xFc, xFs, xPc, xKo, xPk, (fun zz => ob_xa (tw zz) (te zz) (tc zz)), pVal, xSet, (fun zz => nI (S zz)), aOut, aVar, (fun zz => nI (FC zz)), (fun zz => nI (FP zz)), (fun zz => nI (FA zz)), (fun zz => nI (FH zz)), (fun zz => nI (XH zz)), (fun zz => nI (FT zz)), fSelf, xHeld, stk, (fun zz => nI (TA zz)), (fun zz => nI (TH zz)), xArg)) : wpX_newArray post (nI n, nI d, nI b, deep, res, thr, thn, (fun zz => nI (CL zz)), cStr, cOp, cA, cB, (fun zz => nI (OK zz)), oKin, oOpen, xFc, xFs, xPc, xKo, xPk, (fun zz => ob_xa (tw zz) (te zz) (tc zz)), pVal, xSet, (fun zz => nI (S zz)), aOut, aVar, (fun zz => nI (FC zz)), (fun zz => nI (FP zz)), (fun zz => nI (FA zz)), (fun zz => nI (FH zz)), (fun zz => nI (XH zz)), (fun zz => nI (FT zz)), fSelf, xHeld, stk, (fun zz => nI (TA zz)), (fun zz => nI (TH zz)), xArg) a := by
  unfold wpX_newArray
  exact ob_newXf hn _ (br_t (by decide) hp)
/-- arguments are popped: by popArguments, and by the loops of build and of calls -/
theorem ob_pops (C : Nat) (hC4 : C ≤ 4) : ∀ c (FH' : Nat → Nat) (xArg' : Nat → Int64) (yArg' : Nat → Int64), c ≤ C → ob_R n (e+1) b m res thr thn CL cOp cA cB OK oKin pVal aOut aVar FC FA FP FH' FT fSelf stk TA TH xFc xFs xPc xKo xPk tw tc xSet S XH xHeld yCo yAr M yPair ySet yStay yHan yKept → (∀ k, c ≤ k → k < C → yArg' k = xArg' k ∧ ob_V n (xArg' k)) →
    ∃ (FH2 : Nat → Nat) (xA yA : Nat → Int64), ob_R n (e+1) b m res thr thn CL cOp cA cB OK oKin pVal aOut aVar FC FA FP FH2 FT fSelf stk TA TH xFc xFs xPc xKo xPk tw tc xSet S XH xHeld yCo yAr M yPair ySet yStay yHan yKept ∧ (∀ k, k < C → yA k = xA k ∧ ob_V n (xA k)) ∧
      (∀ post : SX → Prop, post (nI n, nI (e+1), nI b, deep, res, thr, thn, (fun zz => nI (CL zz)), cStr, cOp, cA, cB, (fun zz => nI (OK zz)), oKin, oOpen, xFc, xFs, xPc, xKo, xPk, (fun zz => ob_xa (tw zz) (te zz) (tc zz)), pVal, xSet, (fun zz => nI (S zz)), aOut, aVar, (fun zz => nI (FC zz)), (fun zz => nI (FP zz)), (fun zz => nI (FA zz)), (fun zz => nI (FH2 zz)), (fun zz => nI (XH zz)), (fun zz => nI (FT zz)), fSelf, xHeld, stk, (fun zz => nI (TA zz)), (fun zz => nI (TH zz)), xA) → wX_popArguments_4 post (c + 1) (nI c + (-1)) (nI n) (nI (e+1)) (nI b) deep res thr thn (fun zz => nI (CL zz)) cStr cOp cA cB (fun zz => nI (OK zz)) oKin oOpen xFc xFs xPc xKo xPk (fun zz => ob_xa (tw zz) (te zz) (tc zz)) pVal xSet (fun zz => nI (S zz)) aOut aVar (fun zz => nI (FC zz)) (fun zz => nI (FP zz)) (fun zz => nI (FA zz)) (fun zz => nI (FH' zz)) (fun zz => nI (XH zz)) (fun zz => nI (FT zz)) fSelf xHeld stk (fun zz => nI (TA zz)) (fun zz => nI (TH zz)) xArg') ∧
      (∀ (post : SY → Prop) (x1 x2 x3 : Int32), wY_build_17 post x1 x2 x3 1 (nI 0 + (-1)) (nI n) (nI m) yGiven (nI (e+1)) deep (nI b) thr thn res cStr (fun zz => nI (CL zz)) cOp cA cB (fun zz => nI (OK zz)) oKin yCo yAr oOpen (fun zz => nI (M zz)) (fun zz => ob_yf (tw zz) (te zz) (tc zz)) yPair ySeen pVal ySet (fun zz => ob_th (S zz)) yStay aOut aVar yA (fun zz => nI (FC zz)) (fun zz => nI (FA zz)) (fun zz => nI (FP zz)) (fun zz => nI (FH2 zz)) yHan (fun zz => nI (FT zz)) (fun zz => nI (TA zz)) (fun zz => nI (TH zz)) fSelf yKept stk → wY_build_17 post x1 x2 x3 (c + 1) (nI c + (-1)) (nI n) (nI m) yGiven (nI (e+1)) deep (nI b) thr thn res cStr (fun zz => nI (CL zz)) cOp cA cB (fun zz => nI (OK zz)) oKin yCo yAr oOpen (fun zz => nI (M zz)) (fun zz => ob_yf (tw zz) (te zz) (tc zz)) yPair ySeen pVal ySet (fun zz => ob_th (S zz)) yStay aOut aVar yArg' (fun zz => nI (FC zz)) (fun zz => nI (FA zz)) (fun zz => nI (FP zz)) (fun zz => nI (FH' zz)) yHan (fun zz => nI (FT zz)) (fun zz => nI (TA zz)) (fun zz => nI (TH zz)) fSelf yKept stk) ∧
      (∀ (post : SY → Prop) (x1 x2 : Int32), wY_calls_4 post x1 x2 1 (nI 0 + (-1)) (nI n) (nI m) yGiven (nI (e+1)) deep (nI b) thr thn res cStr (fun zz => nI (CL zz)) cOp cA cB (fun zz => nI (OK zz)) oKin yCo yAr oOpen (fun zz => nI (M zz)) (fun zz => ob_yf (tw zz) (te zz) (tc zz)) yPair ySeen pVal ySet (fun zz => ob_th (S zz)) yStay aOut aVar yA (fun zz => nI (FC zz)) (fun zz => nI (FA zz)) (fun zz => nI (FP zz)) (fun zz => nI (FH2 zz)) yHan (fun zz => nI (FT zz)) (fun zz => nI (TA zz)) (fun zz => nI (TH zz)) fSelf yKept stk → wY_calls_4 post x1 x2 (c + 1) (nI c + (-1)) (nI n) (nI m) yGiven (nI (e+1)) deep (nI b) thr thn res cStr (fun zz => nI (CL zz)) cOp cA cB (fun zz => nI (OK zz)) oKin yCo yAr oOpen (fun zz => nI (M zz)) (fun zz => ob_yf (tw zz) (te zz) (tc zz)) yPair ySeen pVal ySet (fun zz => ob_th (S zz)) yStay aOut aVar yArg' (fun zz => nI (FC zz)) (fun zz => nI (FA zz)) (fun zz => nI (FP zz)) (fun zz => nI (FH' zz)) yHan (fun zz => nI (FT zz)) (fun zz => nI (TA zz)) (fun zz => nI (TH zz)) fSelf yKept stk) := by
  intro c
  induction c with
  | zero =>
    intro FH' xArg' yArg' _ R harg
    refine ⟨FH', xArg', yArg', R, fun k hk => harg k (by omega) hk, fun post hp => ?_, fun post x1 x2 x3 hp => hp, fun post x1 x2 hp => hp⟩
    unfold wX_popArguments_4
    exact br_t (by decide) hp
  | succ c ih =>
    intro FH' xArg' yArg' hcC R harg
    obtain ⟨r, FH1, R1, hVr, hH, hX1, hY1⟩ := ob_pop (deep := deep) (cStr := cStr) (oOpen := oOpen) (te := te) (xArg := xArg') (ySeen := ySeen) (yArg := yArg') (yGiven := yGiven) R
    obtain ⟨FH2, xA, yA, R2, hA2, hX2, hY2, hZ2⟩ := ih FH1 (vp_updL xArg' c r) (vp_updL yArg' c r) (by omega) R1 (fun k hk hk2 => by
      rw [ob_uaL, ob_uaL]
      by_cases z : k = c
      · rw [if_pos z, if_pos z]
        exact ⟨rfl, hVr⟩
      · rw [if_neg z, if_neg z]
        exact harg k (by omega) hk2)
    have hin : vp_in (nI c) 4 := vp_in_nI (by omega) (by decide)
    have hcl : (nI c).toNatClampNeg = c := ob_cl (by omega)
    have hc0 : ¬ nI c < 0 := nI_pos (by omega)
    refine ⟨FH2, xA, yA, R2, hA2, fun post hp => ?_, fun post x1 x2 x3 hp => ?_, fun post x1 x2 hp => ?_⟩
    · rw [pk_m1]
      unfold wX_popArguments_4
      refine br_f hc0 (hX1 _ ⟨hin, ?_⟩)
      rw [hcl]
      exact nm_e (nm_e (hX2 post hp))
    · rw [pk_m1]
      unfold wY_build_17
      refine br_f hc0 (hY1 _ ⟨hin, ?_⟩)
      rw [hcl]
      exact nm_e (nm_e (hY2 post x1 x2 x3 hp))
    · rw [pk_m1]
      unfold wY_calls_4
      refine br_f hc0 (hY1 _ ⟨hin, ?_⟩)
      rw [hcl]
      exact nm_e (nm_e (hZ2 post x1 x2 hp))
end
