/-! ===== the relation: near equality; what both sides hold alike is one function ===== -/
def ob_th (s : Nat) : Int32 := if s = 0 then 0 else 1
def ob_most (q : Nat) : Option Nat :=
  if q = 1 then some 5 else if q = 5 ∨ q = 6 then some 3 else if q = 8 ∨ q = 9 ∨ q = 12 ∨ q = 13 then some 31
  else if q = 15 ∨ q = 17 ∨ q = 18 then some 4 else if q = 16 then some 7 else if q = 21 ∨ q = 23 ∨ q = 24 then some 24
  else if q = 31 then some 2 else none
def ob_ok (op a b : Int32) : Prop := ∃ q, q < 32 ∧ op = nI q ∧ (∀ g, ob_most q = some g → ∃ x, x ≤ g ∧ a = nI x) ∧ (q = 5 ∨ q = 6 → ∃ y, y ≤ 3 ∧ b = nI y)
def ob_gC (CL : Nat → Nat) (cOp cA cB : Nat → Int32) : Prop := ∀ c, c < 8 → CL c ≤ 24 ∧ ∀ j, j < CL c → ob_ok (cOp (24 * c + j)) (cA (24 * c + j)) (cB (24 * c + j))
def ob_gO (n : Nat) (OK : Nat → Nat) (oKin : Nat → Int32) : Prop := (3 ≤ n ∧ n ≤ 32) ∧ ∀ o, o < n → OK o ≤ 2 ∧ (oKin o = -1 ∨ ∃ p, p < o ∧ oKin o = nI p)
/-- one slot: absent, data, or a pair -/
def ob_sl (n M : Nat) (v : Int64) (pk : Int32) (w : Bool) (xs : Int64) (pr : Int32) (ys : Int64) : Prop :=
  (M = 0 ∧ pk = 0) ∨ (M ≠ 0 ∧ ob_V n v ∧ ((pr = 0 ∧ pk = 1) ∨ (pr = 1 ∧ pk = 2 ∧ w = false ∧ xs = ys ∧ ob_V n ys)))
def ob_gP (n m : Nat) (M : Nat → Nat) (pVal : Nat → Int64) (xPk : Nat → Int32) (tw : Nat → Bool) (xSet : Nat → Int64) (yPair : Nat → Int32) (ySet : Nat → Int64) : Prop :=
  (∀ i, M i ≤ m) ∧ (∀ i, 32 * n ≤ i → M i = 0) ∧ ∀ i, i < 32 * n → ob_sl n (M i) (pVal i) (xPk i) (tw i) (xSet i) (yPair i) (ySet i)
def ob_gL (n : Nat) (M : Nat → Nat) (xPc xKo : Nat → Int32) : Prop :=
  ∀ o, o < n → ∃ L : List Nat, xPc o = nI L.length ∧ (∀ p k, L[p]? = some k → xKo (32 * o + p) = nI k) ∧ ob_ord M o L
/-- an array has its LENGTH, and no element beyond -/
def ob_gY (n : Nat) (OK M : Nat → Nat) (tc : Nat → Bool) (pVal : Nat → Int64) (yPair : Nat → Int32) : Prop :=
  ∀ o, o < n → OK o = 1 → M (32 * o + 16) ≠ 0 ∧ yPair (32 * o + 16) = 0 ∧ tc (32 * o + 16) = false ∧ ∃ l, l ≤ 16 ∧ pVal (32 * o + 16) = lN l ∧ ∀ k, l ≤ k → k < 16 → M (32 * o + k) = 0
def ob_sc (S : Nat → Nat) (x : Int32) : Prop := x = -1 ∨ ∃ a, a < 24 ∧ x = nI a ∧ S a = 2
def ob_gA (n : Nat) (OK S : Nat → Nat) (xFc xFs yCo yAr yStay aOut : Nat → Int32) (aVar : Nat → Int64) : Prop :=
  (∀ o, o < n → OK o = 2 → xFc o = yCo o ∧ (∃ c, c < 8 ∧ yCo o = nI c) ∧ xFs o = yAr o ∧ ob_sc S (yAr o)) ∧
  (∀ a, a < 24 → S a ≤ 2 ∧ (S a ≠ 0 → yStay a = nI (S a - 1) ∧ ob_sc S (aOut a) ∧ ∀ k, k < 4 → ob_V n (aVar (4 * a + k))))
def ob_fr (n f : Nat) (S FC FA FP FH FT : Nat → Nat) (fSelf stk : Nat → Int64) (TA TH XH : Nat → Nat) (yHan : Nat → Int32) (xHeld yKept : Nat → Int64) : Prop :=
  FC f < 8 ∧ FA f < 24 ∧ S (FA f) ≠ 0 ∧ FP f ≤ 24 ∧ FH f ≤ 10 ∧ (∀ s, s < FH f → ob_V n (stk (10 * f + s))) ∧
  XH f ≤ 3 ∧ yHan f = nI (XH f) ∧ (∀ s, s < XH f → TA (3 * f + s) ≤ 24 ∧ TH (3 * f + s) ≤ 10) ∧ ob_V n (fSelf f) ∧
  FT f ≤ 2 ∧ (FT f ≠ 0 → xHeld f = yKept f ∧ ob_V n (yKept f))
def ob_gF (n d : Nat) (S FC FA FP FH FT : Nat → Nat) (fSelf stk : Nat → Int64) (TA TH XH : Nat → Nat) (yHan : Nat → Int32) (xHeld yKept : Nat → Int64) : Prop :=
  d ≤ 6 ∧ (∀ f, f < d → ob_fr n f S FC FA FP FH FT fSelf stk TA TH XH yHan xHeld yKept) ∧ ∀ f g, f < g → g < d → FA f ≠ FA g
def ob_gT (n d b : Nat) (res : Int64) (thr : Int32) (thn : Int64) : Prop :=
  b ≤ 300 ∧ (thr = 0 ∨ thr = 1 ∧ ob_V n thn) ∧ (d ≠ 0 → res = 8589934592)
def ob_R (n : Nat) (d : Nat) (b : Nat) (m : Nat) (res : Int64) (thr : Int32) (thn : Int64) (CL : Nat → Nat) (cOp : Nat → Int32) (cA : Nat → Int32) (cB : Nat → Int32) (OK : Nat → Nat) (oKin : Nat → Int32) (pVal : Nat → Int64) (aOut : Nat → Int32) (aVar : Nat → Int64) (FC : Nat → Nat) (FA : Nat → Nat) (FP : Nat → Nat) (FH : Nat → Nat) (FT : Nat → Nat) (fSelf : Nat → Int64) (stk : Nat → Int64) (TA : Nat → Nat) (TH : Nat → Nat) (xFc : Nat → Int32) (xFs : Nat → Int32) (xPc : Nat → Int32) (xKo : Nat → Int32) (xPk : Nat → Int32) (tw : Nat → Bool) (tc : Nat → Bool) (xSet : Nat → Int64) (S : Nat → Nat) (XH : Nat → Nat) (xHeld : Nat → Int64) (yCo : Nat → Int32) (yAr : Nat → Int32) (M : Nat → Nat) (yPair : Nat → Int32) (ySet : Nat → Int64) (yStay : Nat → Int32) (yHan : Nat → Int32) (yKept : Nat → Int64) : Prop :=
  ob_gC CL cOp cA cB ∧ ob_gO n OK oKin ∧ ob_gP n m M pVal xPk tw xSet yPair ySet ∧ ob_gL n M xPc xKo ∧ ob_gY n OK M tc pVal yPair ∧
  ob_gA n OK S xFc xFs yCo yAr yStay aOut aVar ∧ ob_gF n d S FC FA FP FH FT fSelf stk TA TH XH yHan xHeld yKept ∧ ob_gT n d b res thr thn
/-- the handlers of the frames at work, counted -/
def ob_hs (XH : Nat → Nat) : Nat → Nat
  | 0 => 0
  | f + 1 => ob_hs XH f + XH f
/-- two related states, whatever they hold; b instructions begun, at most B moments, the measure at most w -/
def ob_S (b B w : Nat) (u : SX) (v : SY) : Prop :=
  ∃ (n : Nat) (d : Nat) (m : Nat) (deep : Int32) (res : Int64) (thr : Int32) (thn : Int64) (CL : Nat → Nat) (cStr : Nat → Int32) (cOp : Nat → Int32) (cA : Nat → Int32) (cB : Nat → Int32) (OK : Nat → Nat) (oKin : Nat → Int32) (oOpen : Nat → Int32) (pVal : Nat → Int64) (aOut : Nat → Int32) (aVar : Nat → Int64) (FC : Nat → Nat) (FA : Nat → Nat) (FP : Nat → Nat) (FH : Nat → Nat) (FT : Nat → Nat) (fSelf : Nat → Int64) (stk : Nat → Int64) (TA : Nat → Nat) (TH : Nat → Nat) (xFc : Nat → Int32) (xFs : Nat → Int32) (xPc : Nat → Int32) (xKo : Nat → Int32) (xPk : Nat → Int32) (tw : Nat → Bool) (te : Nat → Bool) (tc : Nat → Bool) (xSet : Nat → Int64) (S : Nat → Nat) (XH : Nat → Nat) (xHeld : Nat → Int64) (xArg : Nat → Int64) (yCo : Nat → Int32) (yAr : Nat → Int32) (M : Nat → Nat) (yPair : Nat → Int32) (ySeen : Nat → Int32) (ySet : Nat → Int64) (yStay : Nat → Int32) (yArg : Nat → Int64) (yHan : Nat → Int32) (yKept : Nat → Int64) (yGiven : Int32), u = (nI n, nI d, nI b, deep, res, thr, thn, (fun zz => nI (CL zz)), cStr, cOp, cA, cB, (fun zz => nI (OK zz)), oKin, oOpen, xFc, xFs, xPc, xKo, xPk, (fun zz => ob_xa (tw zz) (te zz) (tc zz)), pVal, xSet, (fun zz => nI (S zz)), aOut, aVar, (fun zz => nI (FC zz)), (fun zz => nI (FP zz)), (fun zz => nI (FA zz)), (fun zz => nI (FH zz)), (fun zz => nI (XH zz)), (fun zz => nI (FT zz)), fSelf, xHeld, stk, (fun zz => nI (TA zz)), (fun zz => nI (TH zz)), xArg) ∧ v = (nI n, nI m, yGiven, nI d, deep, nI b, thr, thn, res, cStr, (fun zz => nI (CL zz)), cOp, cA, cB, (fun zz => nI (OK zz)), oKin, yCo, yAr, oOpen, (fun zz => nI (M zz)), (fun zz => ob_yf (tw zz) (te zz) (tc zz)), yPair, ySeen, pVal, ySet, (fun zz => ob_th (S zz)), yStay, aOut, aVar, yArg, (fun zz => nI (FC zz)), (fun zz => nI (FA zz)), (fun zz => nI (FP zz)), (fun zz => nI (FH zz)), yHan, (fun zz => nI (FT zz)), (fun zz => nI (TA zz)), (fun zz => nI (TH zz)), fSelf, yKept, stk) ∧ ob_R n d b m res thr thn CL cOp cA cB OK oKin pVal aOut aVar FC FA FP FH FT fSelf stk TA TH xFc xFs xPc xKo xPk tw tc xSet S XH xHeld yCo yAr M yPair ySet yStay yHan yKept ∧ m ≤ B ∧ 4 * d + ob_hs XH d ≤ w
