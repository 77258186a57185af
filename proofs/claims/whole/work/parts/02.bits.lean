/-! ===== what a DEFINE says, and the attributes: both sides from nine (three) truth values ===== -/
def ob_n (b : Bool) (k : Nat) : Nat := if b then k else 0
def ob_xa (w e c : Bool) : Int32 := nI (ob_n w 1 + ob_n e 2 + ob_n c 4)
def ob_yf (w e c : Bool) : Int32 := nI (ob_n w 2 + ob_n e 16 + ob_n c 32)
/-- said, on the component's side -/
def ob_xs (sV sG sS sW sE sC oW oE oC : Bool) : Int32 := nI (ob_n oW 1 + ob_n oE 2 + ob_n oC 4 + ob_n sW 8 + ob_n sE 16 + ob_n sC 32 + ob_n sV 64 + ob_n sG 128 + ob_n sS 256)
/-- said, on the reference's side -/
def ob_ys (sV sG sS sW sE sC : Bool) : Int32 := nI (ob_n sV 1 + ob_n sW 2 + ob_n sG 4 + ob_n sS 8 + ob_n sE 16 + ob_n sC 32)
theorem ob_xaW : ∀ w e c : Bool, (ob_xa w e c &&& 1) = 0 ↔ w = false := by decide +kernel
theorem ob_xaE : ∀ w e c : Bool, (ob_xa w e c &&& 2) = 0 ↔ e = false := by decide +kernel
theorem ob_xaC : ∀ w e c : Bool, (ob_xa w e c &&& 4) = 0 ↔ c = false := by decide +kernel
theorem ob_yfW : ∀ w e c : Bool, (ob_yf w e c &&& 2) = 0 ↔ w = false := by decide +kernel
theorem ob_yfE : ∀ w e c : Bool, (ob_yf w e c &&& 16) = 0 ↔ e = false := by decide +kernel
theorem ob_yfC : ∀ w e c : Bool, (ob_yf w e c &&& 32) = 0 ↔ c = false := by decide +kernel
theorem ob_xsV : ∀ sV sG sS sW sE sC oW oE oC : Bool, (ob_xs sV sG sS sW sE sC oW oE oC &&& 64) = 0 ↔ sV = false := by decide +kernel
theorem ob_xsG : ∀ sV sG sS sW sE sC oW oE oC : Bool, (ob_xs sV sG sS sW sE sC oW oE oC &&& 128) = 0 ↔ sG = false := by decide +kernel
theorem ob_xsS : ∀ sV sG sS sW sE sC oW oE oC : Bool, (ob_xs sV sG sS sW sE sC oW oE oC &&& 256) = 0 ↔ sS = false := by decide +kernel
theorem ob_xsE : ∀ sV sG sS sW sE sC oW oE oC : Bool, (ob_xs sV sG sS sW sE sC oW oE oC &&& 16) = 0 ↔ sE = false := by decide +kernel
theorem ob_xsD : ∀ sV sG sS sW sE sC oW oE oC : Bool, (ob_xs sV sG sS sW sE sC oW oE oC &&& 72) = 0 ↔ (sV = false ∧ sW = false) := by decide +kernel
theorem ob_xsA : ∀ sV sG sS sW sE sC oW oE oC : Bool, (ob_xs sV sG sS sW sE sC oW oE oC &&& 384) = 0 ↔ (sG = false ∧ sS = false) := by decide +kernel
theorem ob_xsVG : ∀ sV sG sS sW sE sC oW oE oC : Bool, (ob_xs sV sG sS sW sE sC oW oE oC &&& 192) = 0 ↔ (sV = false ∧ sG = false) := by decide +kernel
theorem ob_ysV : ∀ sV sG sS sW sE sC : Bool, (ob_ys sV sG sS sW sE sC &&& 1) = 0 ↔ sV = false := by decide +kernel
theorem ob_ysG : ∀ sV sG sS sW sE sC : Bool, (ob_ys sV sG sS sW sE sC &&& 4) = 0 ↔ sG = false := by decide +kernel
theorem ob_ysS : ∀ sV sG sS sW sE sC : Bool, (ob_ys sV sG sS sW sE sC &&& 8) = 0 ↔ sS = false := by decide +kernel
theorem ob_ysD : ∀ sV sG sS sW sE sC : Bool, (ob_ys sV sG sS sW sE sC &&& 3) = 0 ↔ (sV = false ∧ sW = false) := by decide +kernel
theorem ob_ysA : ∀ sV sG sS sW sE sC : Bool, (ob_ys sV sG sS sW sE sC &&& 12) = 0 ↔ (sG = false ∧ sS = false) := by decide +kernel
theorem ob_ysVG : ∀ sV sG sS sW sE sC : Bool, (ob_ys sV sG sS sW sE sC &&& 5) = 0 ↔ (sV = false ∧ sG = false) := by decide +kernel
theorem ob_ysC : ∀ sV sG sS sW sE sC oW oE oC : Bool, (ob_ys sV sG sS sW sE sC &&& ob_yf oW oE oC &&& 32) = 0 ↔ (sC && oC) = false := by decide +kernel
theorem ob_ysW : ∀ sV sG sS sW sE sC oW oE oC : Bool, (ob_ys sV sG sS sW sE sC &&& ob_yf oW oE oC &&& 2) = 0 ↔ (sW && oW) = false := by decide +kernel
theorem ob_ysE : ∀ sV sG sS sW sE sC oW oE oC w e c : Bool, (ob_ys sV sG sS sW sE sC &&& (ob_yf oW oE oC ^^^ ob_yf w e c) &&& 16) = 0 ↔ (sE && (oE != e)) = false := by decide +kernel
theorem ob_xaN : ∀ w e c : Bool, (ob_xa w e c &&& (-2)) = ob_xa false e c := by decide +kernel
theorem ob_yfN : ∀ w e c : Bool, (ob_yf w e c &&& (-3)) = ob_yf false e c := by decide +kernel
theorem ob_yab : ∀ sV sG sS sW sE sC : Bool, (ob_ys sV sG sS sW sE sC &&& 50) = ob_yf sW sE sC := by decide +kernel
theorem ob_ynew : ∀ sW sE sC oW oE oC w e c : Bool, ((ob_yf w e c &&& (ob_yf sW sE sC ^^^ (-1))) ||| (ob_yf oW oE oC &&& ob_yf sW sE sC)) = ob_yf (if sW then oW else w) (if sE then oE else e) (if sC then oC else c) := by decide +kernel
theorem ob_xch : ∀ sV sG sS sW sE sC oW oE oC : Bool, ((ob_xs sV sG sS sW sE sC oW oE oC >>> ((3 : Int32) &&& 31)) &&& 7) = ob_xa sW sE sC := by decide +kernel
theorem ob_xon : ∀ sV sG sS sW sE sC oW oE oC : Bool, (ob_xs sV sG sS sW sE sC oW oE oC &&& ob_xa sW sE sC) = ob_xa (sW && oW) (sE && oE) (sC && oC) := by decide +kernel
theorem ob_xnew : ∀ sW sE sC oW oE oC w e c : Bool, ((ob_xa w e c &&& (ob_xa sW sE sC ^^^ (-1))) ||| ob_xa (sW && oW) (sE && oE) (sC && oC)) = ob_xa (if sW then oW else w) (if sE then oE else e) (if sC then oC else c) := by decide +kernel
theorem ob_xso : ∀ sV sG sS sW sE sC oW oE oC : Bool, ((ob_xs sV sG sS sW sE sC oW oE oC &&& (ob_xs sV sG sS sW sE sC oW oE oC >>> ((3 : Int32) &&& 31))) &&& 7) = ob_xa (sW && oW) (sE && oE) (sC && oC) := by decide +kernel
theorem ob_xaEE : ∀ w e c w' e' c' : Bool, (ob_xa w e c &&& 2) = (ob_xa w' e' c' &&& 2) ↔ e = e' := by decide +kernel
theorem ob_xa0 : ob_xa false false false = 0 := rfl
theorem ob_yf0 : ob_yf false false false = 0 := rfl
/-! said, as the callers build it -/
theorem ob_sDef : ∀ a : Fin 128, ob_xs (a.val.testBit 6) false false (a.val.testBit 3) (a.val.testBit 4) (a.val.testBit 5) (a.val.testBit 0) (a.val.testBit 1) (a.val.testBit 2) = nI a.val := by decide +kernel
theorem ob_s64 : ob_xs true false false false false false false false false = 64 := rfl
theorem ob_s127 : ob_xs true false false true true true true true true = 127 := rfl
theorem ob_s73 : ob_xs true false false true false false true false false = 73 := rfl
theorem ob_y1 : ob_ys true false false false false false = 1 := rfl
theorem ob_y51 : ob_ys true false false true true true = 51 := rfl
theorem ob_y50 : ob_yf true true true = 50 := rfl
/-! changes of three truth functions -/
def ob_ub (F : Nat → Bool) (i : Nat) (x : Bool) : Nat → Bool := fun j => if j = i then x else F j
theorem ob_ub_s (F : Nat → Bool) (i : Nat) (x : Bool) : ob_ub F i x i = x := if_pos rfl
theorem ob_ub_n (F : Nat → Bool) {i j : Nat} (x : Bool) (h : j ≠ i) : ob_ub F i x j = F j := if_neg h
theorem ob_ub_u (F : Nat → Bool) (i : Nat) (x y : Bool) : ob_ub (ob_ub F i x) i y = ob_ub F i y := by
  funext j; unfold ob_ub; split <;> rfl
theorem ob_ub_i (F : Nat → Bool) (i : Nat) : ob_ub F i (F i) = F := by
  funext j; unfold ob_ub; split
  · rename_i e; rw [e]
  · rfl
theorem ob_uA (tw te tc : Nat → Bool) (i : Nat) (a b c : Bool) : upd (fun zz => ob_xa (tw zz) (te zz) (tc zz)) i (ob_xa a b c) = fun zz => ob_xa (ob_ub tw i a zz) (ob_ub te i b zz) (ob_ub tc i c zz) := by
  funext j; unfold upd ob_ub; split <;> rfl
theorem ob_uF (tw te tc : Nat → Bool) (i : Nat) (a b c : Bool) : upd (fun zz => ob_yf (tw zz) (te zz) (tc zz)) i (ob_yf a b c) = fun zz => ob_yf (ob_ub tw i a zz) (ob_ub te i b zz) (ob_ub tc i c zz) := by
  funext j; unfold upd ob_ub; split <;> rfl
theorem ob_uA0 (tw te tc : Nat → Bool) (i : Nat) : upd (fun zz => ob_xa (tw zz) (te zz) (tc zz)) i 0 = fun zz => ob_xa (ob_ub tw i false zz) (ob_ub te i false zz) (ob_ub tc i false zz) := ob_uA tw te tc i false false false
theorem ob_uF0 (tw te tc : Nat → Bool) (i : Nat) : upd (fun zz => ob_yf (tw zz) (te zz) (tc zz)) i 0 = fun zz => ob_yf (ob_ub tw i false zz) (ob_ub te i false zz) (ob_ub tc i false zz) := ob_uF tw te tc i false false false
