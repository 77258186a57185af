/-! ===== what a DEFINE says, and the attributes: both sides from nine (three) truth values ===== -/
def ob_n (b : Bool) (k : Nat) : Nat := if b then k else 0
def ob_xa (w e c : Bool) : Int32 := nI (ob_n w 1 + ob_n e 2 + ob_n c 4)
def ob_yf (w e c : Bool) : Int32 := nI (ob_n w 2 + ob_n e 16 + ob_n c 32)
/-- said, on the component's side -/
def ob_xs (sV sG sS sW sE sC oW oE oC : Bool) : Int32 := nI (ob_n oW 1 + ob_n oE 2 + ob_n oC 4 + ob_n sW 8 + ob_n sE 16 + ob_n sC 32 + ob_n sV 64 + ob_n sG 128 + ob_n sS 256)
/-- said, on the reference's side -/
def ob_ys (sV sG sS sW sE sC : Bool) : Int32 := nI (ob_n sV 1 + ob_n sW 2 + ob_n sG 4 + ob_n sS 8 + ob_n sE 16 + ob_n sC 32)
theorem ob_xaW : ∀ w e c : Bool, (ob_xa w e c &&& 1) = 0 ↔ w = false := by decide +kernel
theorem ob_xaE : ∀ w e c : Bool, (ob_xa w e c &&& 2) = 0 ↔ e = false := by decide +kernel
theorem ob_xaC : ∀ w e c : Bool, (ob_xa w e c &&& 4) = 0 ↔ c = false := by decide +kernel
theorem ob_yfW : ∀ w e c : Bool, (ob_yf w e c &&& 2) = 0 ↔ w = false := by decide +kernel
theorem ob_yfE : ∀ w e c : Bool, (ob_yf w e c &&& 16) = 0 ↔ e = false := by decide +kernel
theorem ob_yfC : ∀ w e c : Bool, (ob_yf w e c &&& 32) = 0 ↔ c = false := by decide +kernel
theorem ob_xsV : ∀ sV sG sS sW sE sC oW oE oC : Bool, (ob_xs sV sG sS sW sE sC oW oE oC &&& 64) = 0 ↔ sV = false := by decide +kernel
theorem ob_xsG : ∀ sV sG sS sW sE sC oW oE oC : Bool, (ob_xs sV sG sS sW sE sC oW oE oC &&& 128) = 0 ↔ sG = false := by decide +kernel
theorem ob_xsS : ∀ sV sG sS sW sE sC oW oE oC : Bool, (ob_xs sV sG sS sW sE sC oW oE oC &&& 256) = 0 ↔ sS = false := by decide +kernel
theorem ob_xsE : ∀ sV sG sS sW sE sC oW oE oC : Bool, (ob_xs sV sG sS sW sE sC oW oE oC &&& 16) = 0 ↔ sE = false := by decide +kernel
theorem ob_xsD : ∀ sV sG sS sW sE sC oW oE oC : Bool, (ob_xs sV sG sS sW sE sC oW oE oC &&& 72) = 0 ↔ (sV = false ∧ sW = false) := by decide +kernel
theorem ob_xsA : ∀ sV sG sS sW sE sC oW oE oC : Bool, (ob_xs sV sG sS sW sE sC oW oE oC &&& 384) = 0 ↔ (sG = false ∧ sS = false) := by decide +kernel
theorem ob_xsVG : ∀ sV sG sS sW sE sC oW oE oC : Bool, (ob_xs sV sG sS sW sE sC oW oE oC &&& 192) = 0 ↔ (sV = false ∧ sG = false) := by decide +kernel
theorem ob_ysV : ∀ sV sG sS sW sE sC : Bool, (ob_ys sV sG sS sW sE sC &&& 1) = 0 ↔ sV = false := by decide +kernel
theorem ob_ysG : ∀ sV sG sS sW sE sC : Bool, (ob_ys sV sG sS sW sE sC &&& 4) = 0 ↔ sG = false := by decide +kernel
theorem ob_ysS : ∀ sV sG sS sW sE sC : Bool, (ob_ys sV sG sS sW sE sC &&& 8) = 0 ↔ sS = false := by decide +kernel
theorem ob_ysD : ∀ sV sG sS sW sE sC : Bool, (ob_ys sV sG sS sW sE sC &&& 3) = 0 ↔ (sV = false ∧ sW = false) := by decide +kernel
theorem ob_ysA : ∀ sV sG sS sW sE sC : Bool, (ob_ys sV sG sS sW sE sC &&& 12) = 0 ↔ (sG = false ∧ sS = false) := by decide +kernel
theorem ob_ysVG : ∀ sV sG sS sW sE sC : Bool, (ob_ys sV sG sS sW sE sC &&& 5) = 0 ↔ (sV = false ∧ sG = false) := by decide +kernel
theorem ob_ysC : ∀ sV sG sS sW sE sC oW oE oC : Bool, (ob_ys sV sG sS sW sE sC &&& ob_yf oW oE oC &&& 32) = 0 ↔ (sC && oC) = false := by decide +kernel
theorem ob_ysW : ∀ sV sG sS sW sE sC oW oE oC : Bool, (ob_ys sV sG sS sW sE sC &&& ob_yf oW oE oC &&& 2) = 0 ↔ (sW && oW) = false := by decide +kernel
theorem ob_ysE : ∀ sV sG sS sW sE sC oW oE oC w e c : Bool, (ob_ys sV sG sS sW sE sC &&& (ob_yf oW oE oC ^^^ ob_yf w e c) &&& 16) = 0 ↔ (sE && (oE != e)) = false := by decide +kernel
theorem ob_xaN : ∀ w e c : Bool, (ob_xa w e c &&& (1 ^^^ (-1))) = ob_xa false e c := by decide +kernel
theorem ob_yfN : ∀ w e c : Bool, (ob_yf w e c &&& (2 ^^^ (-1))) = ob_yf false e c := by decide +kernel
theorem ob_yab : ∀ sV sG sS sW sE sC : Bool, (ob_ys sV sG sS sW sE sC &&& 50) = ob_yf sW sE sC := by decide +kernel
theorem ob_ynew : ∀ sW sE sC oW oE oC w e c : Bool, ((ob_yf w e c &&& (ob_yf sW sE sC ^^^ (-1))) ||| (ob_yf oW oE oC &&& ob_yf sW sE sC)) = ob_yf (if sW then oW else w) (if sE then oE else e) (if sC then oC else c) := by decide +kernel
