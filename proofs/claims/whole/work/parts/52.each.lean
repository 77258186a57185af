/-! ===== each ===== -/
def ob_sr (had : Int32) (seen : Nat → Int32) : Prop := ∀ q, q < 32 → (bt had q = false ↔ seen q = 0)
theorem ob_sr_u {had : Int32} {seen : Nat → Int32} {q : Nat} (h : ob_sr had seen) (hq : q < 32) : ob_sr (had ||| ((1 : Int32) <<< (nI q &&& 31))) (upd seen q 1) := by
  intro i hi
  rw [ob_had had hq hi]
  by_cases z : i = q
  · subst z
    rw [pk_us]
    simp
  · rw [pk_un z]
    simp only [z, decide_false, Bool.or_false]
    exact h i hi
section
variable {n : Nat} {d : Nat} {b : Nat} {m : Nat} {deep : Int32} {res : Int64} {thr : Int32} {thn : Int64} {CL : Nat → Nat} {cStr : Nat → Int32} {cOp : Nat → Int32} {cA : Nat → Int32} {cB : Nat → Int32} {OK : Nat → Nat} {oKin : Nat → Int32} {oOpen : Nat → Int32} {pVal : Nat → Int64} {aOut : Nat → Int32} {aVar : Nat → Int64} {FC : Nat → Nat} {FA : Nat → Nat} {FP : Nat → Nat} {FH : Nat → Nat} {FT : Nat → Nat} {fSelf : Nat → Int64} {stk : Nat → Int64} {TA : Nat → Nat} {TH : Nat → Nat} {xFc : Nat → Int32} {xFs : Nat → Int32} {xPc : Nat → Int32} {xKo : Nat → Int32} {xPk : Nat → Int32} {tw : Nat → Bool} {te : Nat → Bool} {tc : Nat → Bool} {xSet : Nat → Int64} {S : Nat → Nat} {XH : Nat → Nat} {xHeld : Nat → Int64} {xArg : Nat → Int64} {yCo : Nat → Int32} {yAr : Nat → Int32} {M : Nat → Nat} {yPair : Nat → Int32} {ySeen : Nat → Int32} {ySet : Nat → Int64} {yStay : Nat → Int32} {yArg : Nat → Int64} {yHan : Nat → Int32} {yKept : Nat → Int64} {yGiven : Int32}
variable {o : Nat}
/-- along the keys of one object: both give one key, or go on to the prototype -/
theorem ob_each1 {L : List Nat} {ix : Int32} (ho : o < n) (hn : n ≤ 32) (hm : ∀ j, M j ≤ m) (hm2 : m < 2 ^ 31) (hL : ob_ord M o L) (hx : ∀ p x, L[p]? = some x → xKo (32 * o + p) = nI x) : ∀ t p (had left s : Int32) (seen : Nat → Int32), t + p = L.length → ob_sr had seen → ((∀ x, L[p]? = some x → s = nI (32 * o + x)) ∧ (L.length ≤ p → s = -1)) →
    (∃ (key : Int32) (seen' : Nat → Int32),
      (∀ (post : Int32 → Prop) (J : Int32 → Int32 → Int32 → Int32 → Prop), post key → wX_each_53 post J (nI o) ix (nI L.length) (nI n) (nI d) (nI b) deep res thr thn (fun zz => nI (CL zz)) cStr cOp cA cB (fun zz => nI (OK zz)) oKin oOpen xFc xFs xPc xKo xPk (fun zz => ob_xa (tw zz) (te zz) (tc zz)) pVal xSet (fun zz => nI (S zz)) aOut aVar (fun zz => nI (FC zz)) (fun zz => nI (FP zz)) (fun zz => nI (FA zz)) (fun zz => nI (FH zz)) (fun zz => nI (XH zz)) (fun zz => nI (FT zz)) fSelf xHeld stk (fun zz => nI (TA zz)) (fun zz => nI (TH zz)) xArg (t + 1) had left (nI p)) ∧
      (∀ (post : Int32 → SY → Prop) J, post key (nI n, nI m, yGiven, nI d, deep, nI b, thr, thn, res, cStr, (fun zz => nI (CL zz)), cOp, cA, cB, (fun zz => nI (OK zz)), oKin, yCo, yAr, oOpen, (fun zz => nI (M zz)), (fun zz => ob_yf (tw zz) (te zz) (tc zz)), yPair, seen', pVal, ySet, (fun zz => ob_th (S zz)), yStay, aOut, aVar, yArg, (fun zz => nI (FC zz)), (fun zz => nI (FA zz)), (fun zz => nI (FP zz)), (fun zz => nI (FH zz)), yHan, (fun zz => nI (FT zz)), (fun zz => nI (TA zz)), (fun zz => nI (TH zz)), fSelf, yKept, stk) → wY_each_65 post J (nI o) (nI n) (nI m) yGiven (nI d) deep (nI b) thr thn res (t + 1) left s cStr (fun zz => nI (CL zz)) cOp cA cB (fun zz => nI (OK zz)) oKin yCo yAr oOpen (fun zz => nI (M zz)) (fun zz => ob_yf (tw zz) (te zz) (tc zz)) yPair seen pVal ySet (fun zz => ob_th (S zz)) yStay aOut aVar yArg (fun zz => nI (FC zz)) (fun zz => nI (FA zz)) (fun zz => nI (FP zz)) (fun zz => nI (FH zz)) yHan (fun zz => nI (FT zz)) (fun zz => nI (TA zz)) (fun zz => nI (TH zz)) fSelf yKept stk)) ∨
    (∃ (had' left' : Int32) (seen' : Nat → Int32), ob_sr had' seen' ∧
      (∀ (post : Int32 → Prop) (J : Int32 → Int32 → Int32 → Int32 → Prop), J had' left' (oKin o) (ix + 1) → wX_each_53 post J (nI o) ix (nI L.length) (nI n) (nI d) (nI b) deep res thr thn (fun zz => nI (CL zz)) cStr cOp cA cB (fun zz => nI (OK zz)) oKin oOpen xFc xFs xPc xKo xPk (fun zz => ob_xa (tw zz) (te zz) (tc zz)) pVal xSet (fun zz => nI (S zz)) aOut aVar (fun zz => nI (FC zz)) (fun zz => nI (FP zz)) (fun zz => nI (FA zz)) (fun zz => nI (FH zz)) (fun zz => nI (XH zz)) (fun zz => nI (FT zz)) fSelf xHeld stk (fun zz => nI (TA zz)) (fun zz => nI (TH zz)) xArg (t + 1) had left (nI p)) ∧
      (∀ (post : Int32 → SY → Prop) J, J left' (oKin o) cStr (fun zz => nI (CL zz)) cOp cA cB (fun zz => nI (OK zz)) oKin yCo yAr oOpen (fun zz => nI (M zz)) (fun zz => ob_yf (tw zz) (te zz) (tc zz)) yPair seen' pVal ySet (fun zz => ob_th (S zz)) yStay aOut aVar yArg (fun zz => nI (FC zz)) (fun zz => nI (FA zz)) (fun zz => nI (FP zz)) (fun zz => nI (FH zz)) yHan (fun zz => nI (FT zz)) (fun zz => nI (TA zz)) (fun zz => nI (TH zz)) fSelf yKept stk → wY_each_65 post J (nI o) (nI n) (nI m) yGiven (nI d) deep (nI b) thr thn res (t + 1) left s cStr (fun zz => nI (CL zz)) cOp cA cB (fun zz => nI (OK zz)) oKin yCo yAr oOpen (fun zz => nI (M zz)) (fun zz => ob_yf (tw zz) (te zz) (tc zz)) yPair seen pVal ySet (fun zz => ob_th (S zz)) yStay aOut aVar yArg (fun zz => nI (FC zz)) (fun zz => nI (FA zz)) (fun zz => nI (FP zz)) (fun zz => nI (FH zz)) yHan (fun zz => nI (FT zz)) (fun zz => nI (TA zz)) (fun zz => nI (TH zz)) fSelf yKept stk)) := by
  have hino : vp_in (nI o) 32 := vp_in_nI (by omega) (by decide)
  have hclo : (nI o).toNatClampNeg = o := ob_cl (by omega)
  have hlen := ob_ord_len hL
  have hsrt := List.pairwise_iff_getElem.mp hL.1
  intro t
  induction t with
  | zero =>
    intro p had left s seen e hsr hs
    have e' : p = L.length := by omega
    subst e'
    have hs1 := hs.2 (Nat.le_refl _)
    subst hs1
    refine Or.inr ⟨had, left, seen, hsr, fun post J hp => ?_, fun post J hp => ?_⟩
    · unfold wX_each_53
      refine br_t (Int32.le_refl _) ⟨hino, ?_⟩
      rw [hclo]
      exact nm_e (nm_e hp)
    · unfold wY_each_65
      refine br_t (by decide) ⟨hino, ?_⟩
      rw [hclo]
      exact nm_e hp
  | succ t ih =>
    intro p had left s seen e hsr hs
    have hpl : p < L.length := by omega
    obtain ⟨key, hkey⟩ : ∃ key, L[p] = key := ⟨_, rfl⟩
    have hpk : L[p]? = some key := by rw [List.getElem?_eq_getElem hpl, hkey]
    have hsk := hs.1 key hpk
    subst hsk
    have hk1 := (hL.2 key).mp (List.mem_of_getElem? hpk)
    have hk32 : key < 32 := hk1.1
    have hxk := hx p key hpk
    have hi : 32 * o + key < 1024 := by omega
    have hin : vp_in (nI (32 * o + key)) 1024 := vp_in_nI hi (by decide)
    have hcl : (nI (32 * o + key)).toNatClampNeg = 32 * o + key := ob_cl hi
    have hinp : vp_in (nI (32 * o + p)) 1024 := vp_in_nI (by omega) (by decide)
    have hclp : (nI (32 * o + p)).toNatClampNeg = 32 * o + p := ob_cl (by omega)
    have hink : vp_in (nI key) 32 := vp_in_nI hk32 (by decide)
    have hclk : (nI key).toNatClampNeg = key := ob_cl (by omega)
    have h32 : ¬ (32 : Int32) = 0 := by decide
    have hrem : nI (32 * o + key) - nI (32 * o + key) / 32 * 32 = nI key := by
      have e := pk_rem (a := 32 * o + key) (d := 32) (by omega) (by decide) (by decide)
      rw [show (32 * o + key) % 32 = key from by omega] at e
      exact e
    have hnp : ¬ nI L.length ≤ nI p := nI_ge hpl (by omega)
    have hMk := hm (32 * o + key)
    obtain ⟨r, hr, hYa⟩ := ob_after (n := n) (d := d) (b := b) (m := m) (deep := deep) (res := res) (thr := thr) (thn := thn) (CL := CL) (cStr := cStr) (cOp := cOp) (cA := cA) (cB := cB) (OK := OK) (oKin := oKin) (oOpen := oOpen) (pVal := pVal) (aOut := aOut) (aVar := aVar) (FC := FC) (FA := FA) (FP := FP) (FH := FH) (FT := FT) (fSelf := fSelf) (stk := stk) (TA := TA) (TH := TH) (tw := tw) (te := te) (tc := tc) (S := S) (yCo := yCo) (yAr := yAr) (M := M) (yPair := yPair) (ySeen := (upd seen key 1)) (ySet := ySet) (yStay := yStay) (yArg := yArg) (yHan := yHan) (yKept := yKept) (yGiven := yGiven) (o := o) (mm := M (32 * o + key)) (L := L) (p := p + 1) (by omega) hm hm2 hMk hL (fun q hq => by
      constructor
      · intro h
        rcases Nat.lt_or_ge q (p + 1) with z | z
        · exact z
        · have := hsrt p q hpl hq (by omega)
          rw [hkey] at this
          omega
      · intro h
        by_cases z : q = p
        · subst z; rw [hkey]; exact Nat.le_refl _
        · have := hsrt q p hq hpl (by omega)
          rw [hkey] at this
          omega)
    /- what the two sides do with the key -/
    have hX0 : ∀ (post : Int32 → Prop) (J : Int32 → Int32 → Int32 → Int32 → Prop) (z0 : Int32), (bt had key = false ∧ z0 = 0 ∨ bt had key = true ∧ z0 = 1) → wX_each_89 post J (wX_each_53 post J (nI o) ix (nI L.length) (nI n) (nI d) (nI b) deep res thr thn (fun zz => nI (CL zz)) cStr cOp cA cB (fun zz => nI (OK zz)) oKin oOpen xFc xFs xPc xKo xPk (fun zz => ob_xa (tw zz) (te zz) (tc zz)) pVal xSet (fun zz => nI (S zz)) aOut aVar (fun zz => nI (FC zz)) (fun zz => nI (FP zz)) (fun zz => nI (FA zz)) (fun zz => nI (FH zz)) (fun zz => nI (XH zz)) (fun zz => nI (FT zz)) fSelf xHeld stk (fun zz => nI (TA zz)) (fun zz => nI (TH zz)) xArg (t + 1)) had left (nI o) ix (nI L.length) (nI p) (nI key) z0 (nI n) (nI d) (nI b) deep res thr thn (fun zz => nI (CL zz)) cStr cOp cA cB (fun zz => nI (OK zz)) oKin oOpen xFc xFs xPc xKo xPk (fun zz => ob_xa (tw zz) (te zz) (tc zz)) pVal xSet (fun zz => nI (S zz)) aOut aVar (fun zz => nI (FC zz)) (fun zz => nI (FP zz)) (fun zz => nI (FA zz)) (fun zz => nI (FH zz)) (fun zz => nI (XH zz)) (fun zz => nI (FT zz)) fSelf xHeld stk (fun zz => nI (TA zz)) (fun zz => nI (TH zz)) xArg → wX_each_53 post J (nI o) ix (nI L.length) (nI n) (nI d) (nI b) deep res thr thn (fun zz => nI (CL zz)) cStr cOp cA cB (fun zz => nI (OK zz)) oKin oOpen xFc xFs xPc xKo xPk (fun zz => ob_xa (tw zz) (te zz) (tc zz)) pVal xSet (fun zz => nI (S zz)) aOut aVar (fun zz => nI (FC zz)) (fun zz => nI (FP zz)) (fun zz => nI (FA zz)) (fun zz => nI (FH zz)) (fun zz => nI (XH zz)) (fun zz => nI (FT zz)) fSelf xHeld stk (fun zz => nI (TA zz)) (fun zz => nI (TH zz)) xArg (t + 1 + 1) had left (nI p) := by
      intro post J z0 hz h
      unfold wX_each_53
      refine br_f hnp ?_
      rw [ob_ix, hclp, hxk]
      refine ⟨hinp, nm_e ?_⟩
      rcases hz with ⟨hb, rfl⟩ | ⟨hb, rfl⟩
      · exact br_t ((ob_hid had hk32).mpr hb) h
      · exact br_f (fun y => absurd (hb.symm.trans ((ob_hid had hk32).mp y)) (by decide)) h
    have hY121 : ∀ (post : Int32 → SY → Prop) J (left' : Int32), wY_each_65 post J (nI o) (nI n) (nI m) yGiven (nI d) deep (nI b) thr thn res (t + 1) left' r cStr (fun zz => nI (CL zz)) cOp cA cB (fun zz => nI (OK zz)) oKin yCo yAr oOpen (fun zz => nI (M zz)) (fun zz => ob_yf (tw zz) (te zz) (tc zz)) yPair (upd seen key 1) pVal ySet (fun zz => ob_th (S zz)) yStay aOut aVar yArg (fun zz => nI (FC zz)) (fun zz => nI (FA zz)) (fun zz => nI (FP zz)) (fun zz => nI (FH zz)) yHan (fun zz => nI (FT zz)) (fun zz => nI (TA zz)) (fun zz => nI (TH zz)) fSelf yKept stk → wY_each_121 post J (wY_each_65 post J (nI o) (nI n) (nI m) yGiven (nI d) deep (nI b) thr thn res (t + 1)) left' (nI o) (nI (32 * o + key)) (nI n) (nI m) yGiven (nI d) deep (nI b) thr thn res cStr (fun zz => nI (CL zz)) cOp cA cB (fun zz => nI (OK zz)) oKin yCo yAr oOpen (fun zz => nI (M zz)) (fun zz => ob_yf (tw zz) (te zz) (tc zz)) yPair seen pVal ySet (fun zz => ob_th (S zz)) yStay aOut aVar yArg (fun zz => nI (FC zz)) (fun zz => nI (FA zz)) (fun zz => nI (FP zz)) (fun zz => nI (FH zz)) yHan (fun zz => nI (FT zz)) (fun zz => nI (TA zz)) (fun zz => nI (TH zz)) fSelf yKept stk := by
      intro post J left' h
      unfold wY_each_121
      rw [hrem, hclk, hcl]
      exact ⟨h32, hink, nm_r (e' := upd seen key 1) rfl ⟨hin, hYa _ h⟩⟩
    have hY0 : ∀ (post : Int32 → SY → Prop) J, ((((seen key) = 0 → (vp_in (nI (32 * o + key)) 1024 ∧ ((((ob_yf (tw (32 * o + key)) (te (32 * o + key)) (tc (32 * o + key)) &&& 16) = 0 → (wY_each_100 post J (wY_each_65 post J (nI o) (nI n) (nI m) yGiven (nI d) deep (nI b) thr thn res (t + 1)) left (nI o) (nI (32 * o + key)) (nI n) (nI m) yGiven (nI d) deep (nI b) thr thn res cStr (fun zz => nI (CL zz)) cOp cA cB (fun zz => nI (OK zz)) oKin yCo yAr oOpen (fun zz => nI (M zz)) (fun zz => ob_yf (tw zz) (te zz) (tc zz)) yPair seen pVal ySet (fun zz => ob_th (S zz)) yStay aOut aVar yArg (fun zz => nI (FC zz)) (fun zz => nI (FA zz)) (fun zz => nI (FP zz)) (fun zz => nI (FH zz)) yHan (fun zz => nI (FT zz)) (fun zz => nI (TA zz)) (fun zz => nI (TH zz)) fSelf yKept stk)) ∧ (¬ (ob_yf (tw (32 * o + key)) (te (32 * o + key)) (tc (32 * o + key)) &&& 16) = 0 → (wY_each_101 post J (wY_each_65 post J (nI o) (nI n) (nI m) yGiven (nI d) deep (nI b) thr thn res (t + 1)) left (nI o) (nI (32 * o + key)) 1 (nI n) (nI m) yGiven (nI d) deep (nI b) thr thn res cStr (fun zz => nI (CL zz)) cOp cA cB (fun zz => nI (OK zz)) oKin yCo yAr oOpen (fun zz => nI (M zz)) (fun zz => ob_yf (tw zz) (te zz) (tc zz)) yPair seen pVal ySet (fun zz => ob_th (S zz)) yStay aOut aVar yArg (fun zz => nI (FC zz)) (fun zz => nI (FA zz)) (fun zz => nI (FP zz)) (fun zz => nI (FH zz)) yHan (fun zz => nI (FT zz)) (fun zz => nI (TA zz)) (fun zz => nI (TH zz)) fSelf yKept stk)))))) ∧ (¬ (seen key) = 0 → (wY_each_100 post J (wY_each_65 post J (nI o) (nI n) (nI m) yGiven (nI d) deep (nI b) thr thn res (t + 1)) left (nI o) (nI (32 * o + key)) (nI n) (nI m) yGiven (nI d) deep (nI b) thr thn res cStr (fun zz => nI (CL zz)) cOp cA cB (fun zz => nI (OK zz)) oKin yCo yAr oOpen (fun zz => nI (M zz)) (fun zz => ob_yf (tw zz) (te zz) (tc zz)) yPair seen pVal ySet (fun zz => ob_th (S zz)) yStay aOut aVar yArg (fun zz => nI (FC zz)) (fun zz => nI (FA zz)) (fun zz => nI (FP zz)) (fun zz => nI (FH zz)) yHan (fun zz => nI (FT zz)) (fun zz => nI (TA zz)) (fun zz => nI (TH zz)) fSelf yKept stk)))) → wY_each_65 post J (nI o) (nI n) (nI m) yGiven (nI d) deep (nI b) thr thn res (t + 1 + 1) left (nI (32 * o + key)) cStr (fun zz => nI (CL zz)) cOp cA cB (fun zz => nI (OK zz)) oKin yCo yAr oOpen (fun zz => nI (M zz)) (fun zz => ob_yf (tw zz) (te zz) (tc zz)) yPair seen pVal ySet (fun zz => ob_th (S zz)) yStay aOut aVar yArg (fun zz => nI (FC zz)) (fun zz => nI (FA zz)) (fun zz => nI (FP zz)) (fun zz => nI (FH zz)) yHan (fun zz => nI (FT zz)) (fun zz => nI (TA zz)) (fun zz => nI (TH zz)) fSelf yKept stk := by
      intro post J h
      unfold wY_each_65
      rw [hrem, hclk, hcl]
      exact br_f (nI_pos (by omega)) ⟨h32, hink, h⟩
    have hgo : ∀ left' : Int32, (∀ (post : Int32 → Prop) (J : Int32 → Int32 → Int32 → Int32 → Prop), wX_each_53 post J (nI o) ix (nI L.length) (nI n) (nI d) (nI b) deep res thr thn (fun zz => nI (CL zz)) cStr cOp cA cB (fun zz => nI (OK zz)) oKin oOpen xFc xFs xPc xKo xPk (fun zz => ob_xa (tw zz) (te zz) (tc zz)) pVal xSet (fun zz => nI (S zz)) aOut aVar (fun zz => nI (FC zz)) (fun zz => nI (FP zz)) (fun zz => nI (FA zz)) (fun zz => nI (FH zz)) (fun zz => nI (XH zz)) (fun zz => nI (FT zz)) fSelf xHeld stk (fun zz => nI (TA zz)) (fun zz => nI (TH zz)) xArg (t + 1) (had ||| ((1 : Int32) <<< (nI key &&& 31))) left' (nI (p + 1)) → wX_each_53 post J (nI o) ix (nI L.length) (nI n) (nI d) (nI b) deep res thr thn (fun zz => nI (CL zz)) cStr cOp cA cB (fun zz => nI (OK zz)) oKin oOpen xFc xFs xPc xKo xPk (fun zz => ob_xa (tw zz) (te zz) (tc zz)) pVal xSet (fun zz => nI (S zz)) aOut aVar (fun zz => nI (FC zz)) (fun zz => nI (FP zz)) (fun zz => nI (FA zz)) (fun zz => nI (FH zz)) (fun zz => nI (XH zz)) (fun zz => nI (FT zz)) fSelf xHeld stk (fun zz => nI (TA zz)) (fun zz => nI (TH zz)) xArg (t + 1 + 1) had left (nI p)) →
        (∀ (post : Int32 → SY → Prop) J, wY_each_65 post J (nI o) (nI n) (nI m) yGiven (nI d) deep (nI b) thr thn res (t + 1) left' r cStr (fun zz => nI (CL zz)) cOp cA cB (fun zz => nI (OK zz)) oKin yCo yAr oOpen (fun zz => nI (M zz)) (fun zz => ob_yf (tw zz) (te zz) (tc zz)) yPair (upd seen key 1) pVal ySet (fun zz => ob_th (S zz)) yStay aOut aVar yArg (fun zz => nI (FC zz)) (fun zz => nI (FA zz)) (fun zz => nI (FP zz)) (fun zz => nI (FH zz)) yHan (fun zz => nI (FT zz)) (fun zz => nI (TA zz)) (fun zz => nI (TH zz)) fSelf yKept stk → wY_each_65 post J (nI o) (nI n) (nI m) yGiven (nI d) deep (nI b) thr thn res (t + 1 + 1) left (nI (32 * o + key)) cStr (fun zz => nI (CL zz)) cOp cA cB (fun zz => nI (OK zz)) oKin yCo yAr oOpen (fun zz => nI (M zz)) (fun zz => ob_yf (tw zz) (te zz) (tc zz)) yPair seen pVal ySet (fun zz => ob_th (S zz)) yStay aOut aVar yArg (fun zz => nI (FC zz)) (fun zz => nI (FA zz)) (fun zz => nI (FP zz)) (fun zz => nI (FH zz)) yHan (fun zz => nI (FT zz)) (fun zz => nI (TA zz)) (fun zz => nI (TH zz)) fSelf yKept stk) →
        (∃ (key' : Int32) (seen' : Nat → Int32),
          (∀ (post : Int32 → Prop) (J : Int32 → Int32 → Int32 → Int32 → Prop), post key' → wX_each_53 post J (nI o) ix (nI L.length) (nI n) (nI d) (nI b) deep res thr thn (fun zz => nI (CL zz)) cStr cOp cA cB (fun zz => nI (OK zz)) oKin oOpen xFc xFs xPc xKo xPk (fun zz => ob_xa (tw zz) (te zz) (tc zz)) pVal xSet (fun zz => nI (S zz)) aOut aVar (fun zz => nI (FC zz)) (fun zz => nI (FP zz)) (fun zz => nI (FA zz)) (fun zz => nI (FH zz)) (fun zz => nI (XH zz)) (fun zz => nI (FT zz)) fSelf xHeld stk (fun zz => nI (TA zz)) (fun zz => nI (TH zz)) xArg (t + 1 + 1) had left (nI p)) ∧
          (∀ (post : Int32 → SY → Prop) J, post key' (nI n, nI m, yGiven, nI d, deep, nI b, thr, thn, res, cStr, (fun zz => nI (CL zz)), cOp, cA, cB, (fun zz => nI (OK zz)), oKin, yCo, yAr, oOpen, (fun zz => nI (M zz)), (fun zz => ob_yf (tw zz) (te zz) (tc zz)), yPair, seen', pVal, ySet, (fun zz => ob_th (S zz)), yStay, aOut, aVar, yArg, (fun zz => nI (FC zz)), (fun zz => nI (FA zz)), (fun zz => nI (FP zz)), (fun zz => nI (FH zz)), yHan, (fun zz => nI (FT zz)), (fun zz => nI (TA zz)), (fun zz => nI (TH zz)), fSelf, yKept, stk) → wY_each_65 post J (nI o) (nI n) (nI m) yGiven (nI d) deep (nI b) thr thn res (t + 1 + 1) left (nI (32 * o + key)) cStr (fun zz => nI (CL zz)) cOp cA cB (fun zz => nI (OK zz)) oKin yCo yAr oOpen (fun zz => nI (M zz)) (fun zz => ob_yf (tw zz) (te zz) (tc zz)) yPair seen pVal ySet (fun zz => ob_th (S zz)) yStay aOut aVar yArg (fun zz => nI (FC zz)) (fun zz => nI (FA zz)) (fun zz => nI (FP zz)) (fun zz => nI (FH zz)) yHan (fun zz => nI (FT zz)) (fun zz => nI (TA zz)) (fun zz => nI (TH zz)) fSelf yKept stk)) ∨
        (∃ (had' left' : Int32) (seen' : Nat → Int32), ob_sr had' seen' ∧
          (∀ (post : Int32 → Prop) (J : Int32 → Int32 → Int32 → Int32 → Prop), J had' left' (oKin o) (ix + 1) → wX_each_53 post J (nI o) ix (nI L.length) (nI n) (nI d) (nI b) deep res thr thn (fun zz => nI (CL zz)) cStr cOp cA cB (fun zz => nI (OK zz)) oKin oOpen xFc xFs xPc xKo xPk (fun zz => ob_xa (tw zz) (te zz) (tc zz)) pVal xSet (fun zz => nI (S zz)) aOut aVar (fun zz => nI (FC zz)) (fun zz => nI (FP zz)) (fun zz => nI (FA zz)) (fun zz => nI (FH zz)) (fun zz => nI (XH zz)) (fun zz => nI (FT zz)) fSelf xHeld stk (fun zz => nI (TA zz)) (fun zz => nI (TH zz)) xArg (t + 1 + 1) had left (nI p)) ∧
          (∀ (post : Int32 → SY → Prop) J, J left' (oKin o) cStr (fun zz => nI (CL zz)) cOp cA cB (fun zz => nI (OK zz)) oKin yCo yAr oOpen (fun zz => nI (M zz)) (fun zz => ob_yf (tw zz) (te zz) (tc zz)) yPair seen' pVal ySet (fun zz => ob_th (S zz)) yStay aOut aVar yArg (fun zz => nI (FC zz)) (fun zz => nI (FA zz)) (fun zz => nI (FP zz)) (fun zz => nI (FH zz)) yHan (fun zz => nI (FT zz)) (fun zz => nI (TA zz)) (fun zz => nI (TH zz)) fSelf yKept stk → wY_each_65 post J (nI o) (nI n) (nI m) yGiven (nI d) deep (nI b) thr thn res (t + 1 + 1) left (nI (32 * o + key)) cStr (fun zz => nI (CL zz)) cOp cA cB (fun zz => nI (OK zz)) oKin yCo yAr oOpen (fun zz => nI (M zz)) (fun zz => ob_yf (tw zz) (te zz) (tc zz)) yPair seen pVal ySet (fun zz => ob_th (S zz)) yStay aOut aVar yArg (fun zz => nI (FC zz)) (fun zz => nI (FA zz)) (fun zz => nI (FP zz)) (fun zz => nI (FH zz)) yHan (fun zz => nI (FT zz)) (fun zz => nI (TA zz)) (fun zz => nI (TH zz)) fSelf yKept stk)) := by
      intro left' hXg hYg
      rcases ih (p + 1) (had ||| ((1 : Int32) <<< (nI key &&& 31))) left' r (upd seen key 1) (by omega) (ob_sr_u hsr hk32) hr with ⟨key', seen', h1, h2⟩ | ⟨had', left2, seen', h0, h1, h2⟩
      · exact Or.inl ⟨key', seen', fun post J hp => hXg post J (h1 post J hp), fun post J hp => hYg post J (h2 post J hp)⟩
      · exact Or.inr ⟨had', left2, seen', h0, fun post J hp => hXg post J (h1 post J hp), fun post J hp => hYg post J (h2 post J hp)⟩
    cases hb : bt had key
    · have hse : seen key = 0 := (hsr key hk32).mp hb
      cases hte : te (32 * o + key)
      · refine hgo left (fun post J h => hX0 post J 0 (Or.inl ⟨hb, rfl⟩) ?_) (fun post J h => hY0 post J (br_t hse ⟨hin, br_t ((ob_yfE _ _ _).mpr hte) ?_⟩))
        · unfold wX_each_89
          refine nm_e (br_t rfl ?_)
          rw [ob_ix, hcl]
          refine ⟨hin, br_t ((ob_xaE _ _ _).mpr hte) ?_⟩
          rw [nI_1]
          exact nm_e h
        · unfold wY_each_100 wY_each_101
          exact br_t rfl (hY121 post J left h)
      · by_cases hl0 : left = 0
        · refine Or.inl ⟨nI key, seen, fun post J h => hX0 post J 0 (Or.inl ⟨hb, rfl⟩) ?_, fun post J h => hY0 post J (br_t hse ⟨hin, br_f (fun y => absurd (hte.symm.trans ((ob_yfE _ _ _).mp y)) (by decide)) ?_⟩)⟩
          · unfold wX_each_89
            refine nm_e (br_t rfl ?_)
            rw [ob_ix, hcl]
            exact ⟨hin, br_f (fun y => absurd (hte.symm.trans ((ob_xaE _ _ _).mp y)) (by decide)) (br_t hl0 h)⟩
          · unfold wY_each_101
            rw [hrem]
            exact br_f (by decide) (nm_e (br_t hl0 ⟨h32, h⟩))
        · refine hgo (left + (-1)) (fun post J h => hX0 post J 0 (Or.inl ⟨hb, rfl⟩) ?_) (fun post J h => hY0 post J (br_t hse ⟨hin, br_f (fun y => absurd (hte.symm.trans ((ob_yfE _ _ _).mp y)) (by decide)) ?_⟩))
          · unfold wX_each_89
            refine nm_e (br_t rfl ?_)
            rw [ob_ix, hcl]
            refine ⟨hin, br_f (fun y => absurd (hte.symm.trans ((ob_xaE _ _ _).mp y)) (by decide)) (br_f hl0 ?_)⟩
            rw [nI_1]
            exact nm_e (nm_e h)
          · unfold wY_each_101
            exact br_f (by decide) (nm_e (br_f hl0 (hY121 post J _ h)))
    · have hse : ¬ seen key = 0 := fun z => absurd (hb.symm.trans ((hsr key hk32).mpr z)) (by decide)
      refine hgo left (fun post J h => hX0 post J 1 (Or.inr ⟨hb, rfl⟩) ?_) (fun post J h => hY0 post J (br_f hse ?_))
      · unfold wX_each_89
        refine nm_e (br_f (by decide) ?_)
        rw [nI_1]
        exact nm_e h
      · unfold wY_each_100 wY_each_101
        exact br_t rfl (hY121 post J left h)
end
