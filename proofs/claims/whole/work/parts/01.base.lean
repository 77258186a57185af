/-! rows of kit/rows (pasted), then values, indices, bits -/
theorem pk_us {f : Nat → Int32} {k : Nat} {x : Int32} : upd f k x k = x := if_pos rfl
theorem pk_un {f : Nat → Int32} {k j : Nat} {x : Int32} (h : j ≠ k) : upd f k x j = f j := if_neg h
theorem pk_uLs {f : Nat → Int64} {k : Nat} {x : Int64} : vp_updL f k x k = x := if_pos rfl
theorem pk_uLn {f : Nat → Int64} {k j : Nat} {x : Int64} (h : j ≠ k) : vp_updL f k x j = f j := if_neg h
theorem pk_sub {a b : Nat} (h : b ≤ a) : nI a - nI b = nI (a - b) := by
  obtain ⟨c, rfl⟩ : ∃ c, a = c + b := ⟨a - b, by omega⟩
  rw [← nI_add, Int32.add_sub_cancel, Nat.add_sub_cancel]
theorem pk_m1 (n : Nat) : nI (n + 1) + (-1) = nI n := by
  rw [← nI_1, Int32.add_assoc, show (1 : Int32) + (-1) = 0 from rfl, Int32.add_zero]
theorem pk_mul (a b : Nat) : nI a * nI b = nI (a * b) := (Int32.ofNat_mul a b).symm
theorem pk_div {a d : Nat} (ha : a < 2 ^ 31) (h0 : 0 < d) (hd : d < 2 ^ 31) : nI a / nI d = nI (a / d) := by
  apply Int32.toInt_inj.mp
  rw [lg_idiv_nonneg (by rw [nI_toInt ha]; omega) (by rw [nI_toInt hd]; omega), nI_toInt ha, nI_toInt hd, nI_toInt (Nat.lt_of_le_of_lt (Nat.div_le_self a d) ha)]
  first | rfl | exact (Int.natCast_ediv _ _).symm
theorem pk_rem {a d : Nat} (ha : a < 2 ^ 31) (h0 : 0 < d) (hd : d < 2 ^ 31) : nI a - nI a / nI d * nI d = nI (a % d) := by
  rw [pk_div ha h0 hd, pk_mul, pk_sub (Nat.div_mul_le_self a d)]
  exact congrArg nI (by have := Nat.div_add_mod' a d; omega)
theorem pk_ix (x : Int32) {n : Nat} (hn : n < 2 ^ 31) : x < 0 ∨ nI n ≤ x ∨ ∃ j : Nat, j < n ∧ x = nI j := by
  by_cases h : x < 0
  · exact Or.inl h
  · obtain ⟨j, hj, rfl⟩ := nI_of h
    by_cases h2 : j < n
    · exact Or.inr (Or.inr ⟨j, h2, rfl⟩)
    · exact Or.inr (Or.inl (nI_le (by omega) hj))
theorem pk_le {x y : Int32} {A B : Prop} (a b : Nat) (f : a ≤ b → A) (g : b < a → B) (hx : x = nI a := by rfl) (hy : y = nI b := by rfl) (ha : a < 2 ^ 31 := by omega) (hb : b < 2 ^ 31 := by omega) : (x ≤ y → A) ∧ (¬ x ≤ y → B) := by
  subst hx hy
  rw [nI_leI ha hb]
  exact ⟨f, fun z => g (by omega)⟩
theorem pk_lt {x y : Int32} {A B : Prop} (a b : Nat) (f : a < b → A) (g : b ≤ a → B) (hx : x = nI a := by rfl) (hy : y = nI b := by rfl) (ha : a < 2 ^ 31 := by omega) (hb : b < 2 ^ 31 := by omega) : (x < y → A) ∧ (¬ x < y → B) := by
  subst hx hy
  rw [nI_ltI ha hb]
  exact ⟨f, fun z => g (by omega)⟩
theorem pk_eq {x y : Int32} {A B : Prop} (a b : Nat) (f : a = b → A) (g : a ≠ b → B) (hx : x = nI a := by rfl) (hy : y = nI b := by rfl) (ha : a < 2 ^ 31 := by omega) (hb : b < 2 ^ 31 := by omega) : (x = y → A) ∧ (¬ x = y → B) := by
  subst hx hy
  rw [nI_eq ha hb]
  exact ⟨f, g⟩
theorem pk_in {x : Int32} (n N : Nat) (h : n < N) (hx : x = nI n := by rfl) (hN : N < 2 ^ 31 := by omega) : vp_in x N := by
  subst hx
  exact vp_in_nI h hN
theorem pk_cl {x : Int32} (n : Nat) (hx : x = nI n := by rfl) (h : n < 2 ^ 31 := by omega) : x.toNatClampNeg = n := by
  subst hx
  exact nI_clamp h
theorem pk_tn {n : Nat} (h : n < 2 ^ 32) : (nI n).toBitVec.toNat = n := Nat.mod_eq_of_lt h
theorem pk_shl (a s : Int32) (k : Nat) (hs : (s.toBitVec.smod 32).toNat = k) : (a <<< s).toBitVec.toNat = a.toBitVec.toNat * 2 ^ k % 2 ^ 32 := by
  show (a.toBitVec <<< (s.toBitVec.smod 32).toNat).toNat = _
  rw [hs, BitVec.toNat_shiftLeft, Nat.shiftLeft_eq]
theorem pk_shlN {n : Nat} (s : Int32) (k : Nat) (hs : (s.toBitVec.smod 32).toNat = k) (h : n * 2 ^ k < 2 ^ 32) : nI n <<< s = nI (n * 2 ^ k) := by
  apply Int32.toBitVec_inj.mp
  apply BitVec.eq_of_toNat_eq
  have hn : n < 2 ^ 32 := Nat.lt_of_le_of_lt (Nat.le_mul_of_pos_right n (Nat.two_pow_pos k)) h
  rw [pk_shl _ _ k hs, pk_tn hn, pk_tn h, Nat.mod_eq_of_lt h]
theorem pk_shr (a s : Int32) (k : Nat) (hs : (s.toBitVec.smod 32).toNat = k) : (a >>> s).toInt = a.toInt >>> k := by
  show (a.toBitVec.sshiftRight (s.toBitVec.smod 32).toNat).toInt = _
  rw [hs, BitVec.toInt_sshiftRight]
  rfl
theorem pk_shrN {n : Nat} (h : n < 2 ^ 31) (s : Int32) (k : Nat) (hs : (s.toBitVec.smod 32).toNat = k) : nI n >>> s = nI (n / 2 ^ k) := by
  apply Int32.toInt_inj.mp
  have h2 : n / 2 ^ k ≤ n := Nat.div_le_self _ _
  rw [pk_shr _ _ k hs, nI_toInt h, nI_toInt (by omega), Int.shiftRight_eq_div_pow]
  rfl
theorem pk_ushr (x s : Int32) (k : Nat) (hs : ((s.toUInt32 &&& Int32.toUInt32 31).toBitVec % 32).toNat = k) : (x.toUInt32 >>> (s.toUInt32 &&& Int32.toUInt32 31)).toInt32.toBitVec.toNat = x.toBitVec.toNat / 2 ^ k := by
  have e : (x.toUInt32 >>> (s.toUInt32 &&& Int32.toUInt32 31)).toInt32.toBitVec = x.toBitVec >>> k := by
    rw [← hs]
    exact UInt32.toBitVec_shiftRight _ _
  rw [e, BitVec.toNat_ushiftRight, Nat.shiftRight_eq_div_pow]
theorem pk_ushrN {n : Nat} (hn : n < 2 ^ 32) (s : Int32) (k : Nat) (hs : ((s.toUInt32 &&& Int32.toUInt32 31).toBitVec % 32).toNat = k) : ((nI n).toUInt32 >>> (s.toUInt32 &&& Int32.toUInt32 31)).toInt32 = nI (n / 2 ^ k) := by
  apply Int32.toBitVec_inj.mp
  apply BitVec.eq_of_toNat_eq
  rw [pk_ushr _ s k hs, pk_tn hn, pk_tn (Nat.lt_of_le_of_lt (Nat.div_le_self _ _) hn)]
theorem pk_lT {n : Nat} (h : n < 2 ^ 63) : (lN n).toInt = (n : Int) := lg_ofNat_toInt h
theorem pk_lLT {a b : Nat} (ha : a < 2 ^ 63) (hb : b < 2 ^ 63) : lN a < lN b ↔ a < b := by
  rw [Int64.lt_iff_toInt_lt, pk_lT ha, pk_lT hb]; omega
theorem pk_lLE {a b : Nat} (ha : a < 2 ^ 63) (hb : b < 2 ^ 63) : lN a ≤ lN b ↔ a ≤ b := by
  rw [Int64.le_iff_toInt_le, pk_lT ha, pk_lT hb]; omega
theorem pk_lEQ {a b : Nat} (ha : a < 2 ^ 63) (hb : b < 2 ^ 63) : lN a = lN b ↔ a = b := by
  rw [← Int64.toInt_inj, pk_lT ha, pk_lT hb]; omega
theorem pk_lOf {x : Int64} (h : ¬ x < 0) : ∃ k : Nat, k < 2 ^ 63 ∧ x = lN k := by
  rw [Int64.lt_iff_toInt_lt] at h
  have h0 : (0 : Int64).toInt = 0 := by decide
  have hx := Int64.toInt_lt x
  refine ⟨x.toInt.toNat, by omega, Int64.toInt_inj.mp ?_⟩
  rw [pk_lT (by omega)]
  omega
theorem pk_loop {σ : Type} (W : Nat → Nat → σ → Prop) (I : Nat → σ → Prop) (e i0 : Nat) (s : σ) (hi : i0 ≤ e) (h0 : I i0 s) (hx : ∀ n s, I e s → W (n + 1) e s)
    (hs : ∀ n i s, i < e → I i s → (∀ s', I (i + 1) s' → W n (i + 1) s') → W (n + 1) i s) : ∃ n, W n i0 s :=
  ⟨e + 1, loop_i W I e hx hs (e + 1) i0 s hi (by omega) h0⟩
theorem pk_loopD {σ : Type} (W : Nat → Nat → σ → Prop) (I : Nat → σ → Prop) (hx : ∀ n s, I 0 s → W (n + 1) 0 s)
    (hs : ∀ n i s, I (i + 1) s → (∀ s', I i s' → W n i s') → W (n + 1) (i + 1) s) : ∀ (e : Nat) (s : σ), I e s → W (e + 1) e s := by
  intro e
  induction e with
  | zero => exact fun s h => hx 0 s h
  | succ e ih => exact fun s h => hs (e + 1) e s h (fun s' h' => ih s' h')
theorem lp1 {A1 : Type} (W : Nat → A1 → Prop) (I : A1 → Prop) (μ : A1 → Nat) (hs : ∀ (n : Nat) (a1 : A1), I a1 → (∀ (b1 : A1), I b1 → μ b1 < μ a1 → W n b1) → W (n + 1) a1) (a1 : A1) (h : I a1) : ∃ n, W n a1 :=
  loop_m (σ := A1) (fun n s => W n s) (fun s => I s) (fun s => μ s) (fun n s hI hk => hs n s hI (fun b1 h9 hm => hk b1 h9 hm)) a1 h
theorem lp2 {A1 A2 : Type} (W : Nat → A1 → A2 → Prop) (I : A1 → A2 → Prop) (μ : A1 → A2 → Nat) (hs : ∀ (n : Nat) (a1 : A1) (a2 : A2), I a1 a2 → (∀ (b1 : A1) (b2 : A2), I b1 b2 → μ b1 b2 < μ a1 a2 → W n b1 b2) → W (n + 1) a1 a2) (a1 : A1) (a2 : A2) (h : I a1 a2) : ∃ n, W n a1 a2 :=
  loop_m (σ := A1 × A2) (fun n s => W n s.1 s.2) (fun s => I s.1 s.2) (fun s => μ s.1 s.2) (fun n s hI hk => hs n s.1 s.2 hI (fun b1 b2 h9 hm => hk (b1, b2) h9 hm)) (a1, a2) h
theorem lp3 {A1 A2 A3 : Type} (W : Nat → A1 → A2 → A3 → Prop) (I : A1 → A2 → A3 → Prop) (μ : A1 → A2 → A3 → Nat) (hs : ∀ (n : Nat) (a1 : A1) (a2 : A2) (a3 : A3), I a1 a2 a3 → (∀ (b1 : A1) (b2 : A2) (b3 : A3), I b1 b2 b3 → μ b1 b2 b3 < μ a1 a2 a3 → W n b1 b2 b3) → W (n + 1) a1 a2 a3) (a1 : A1) (a2 : A2) (a3 : A3) (h : I a1 a2 a3) : ∃ n, W n a1 a2 a3 :=
  loop_m (σ := A1 × A2 × A3) (fun n s => W n s.1 s.2.1 s.2.2) (fun s => I s.1 s.2.1 s.2.2) (fun s => μ s.1 s.2.1 s.2.2) (fun n s hI hk => hs n s.1 s.2.1 s.2.2 hI (fun b1 b2 b3 h9 hm => hk (b1, b2, b3) h9 hm)) (a1, a2, a3) h
theorem lp4 {A1 A2 A3 A4 : Type} (W : Nat → A1 → A2 → A3 → A4 → Prop) (I : A1 → A2 → A3 → A4 → Prop) (μ : A1 → A2 → A3 → A4 → Nat) (hs : ∀ (n : Nat) (a1 : A1) (a2 : A2) (a3 : A3) (a4 : A4), I a1 a2 a3 a4 → (∀ (b1 : A1) (b2 : A2) (b3 : A3) (b4 : A4), I b1 b2 b3 b4 → μ b1 b2 b3 b4 < μ a1 a2 a3 a4 → W n b1 b2 b3 b4) → W (n + 1) a1 a2 a3 a4) (a1 : A1) (a2 : A2) (a3 : A3) (a4 : A4) (h : I a1 a2 a3 a4) : ∃ n, W n a1 a2 a3 a4 :=
  loop_m (σ := A1 × A2 × A3 × A4) (fun n s => W n s.1 s.2.1 s.2.2.1 s.2.2.2) (fun s => I s.1 s.2.1 s.2.2.1 s.2.2.2) (fun s => μ s.1 s.2.1 s.2.2.1 s.2.2.2) (fun n s hI hk => hs n s.1 s.2.1 s.2.2.1 s.2.2.2 hI (fun b1 b2 b3 b4 h9 hm => hk (b1, b2, b3, b4) h9 hm)) (a1, a2, a3, a4) h
/-! ===== indices ===== -/
theorem ob_ix (o k : Nat) : nI o * 32 + nI k = nI (32 * o + k) := by
  show nI o * nI 32 + nI k = _
  rw [pk_mul, nI_add, Nat.mul_comm]
theorem ob_iy (o k : Nat) : 32 * nI o + nI k = nI (32 * o + k) := by
  show nI 32 * nI o + nI k = _
  rw [pk_mul, nI_add]
theorem ob_ix24 (o k : Nat) : nI o * 24 + nI k = nI (24 * o + k) := by
  show nI o * nI 24 + nI k = _
  rw [pk_mul, nI_add, Nat.mul_comm]
theorem ob_iy24 (o k : Nat) : 24 * nI o + nI k = nI (24 * o + k) := by
  show nI 24 * nI o + nI k = _
  rw [pk_mul, nI_add]
theorem ob_ix10 (o k : Nat) : nI o * 10 + nI k = nI (10 * o + k) := by
  show nI o * nI 10 + nI k = _
  rw [pk_mul, nI_add, Nat.mul_comm]
theorem ob_iy10 (o k : Nat) : 10 * nI o + nI k = nI (10 * o + k) := by
  show nI 10 * nI o + nI k = _
  rw [pk_mul, nI_add]
theorem ob_ix4 (o k : Nat) : nI o * 4 + nI k = nI (4 * o + k) := by
  show nI o * nI 4 + nI k = _
  rw [pk_mul, nI_add, Nat.mul_comm]
theorem ob_iy4 (o k : Nat) : 4 * nI o + nI k = nI (4 * o + k) := by
  show nI 4 * nI o + nI k = _
  rw [pk_mul, nI_add]
theorem ob_ix3 (o k : Nat) : nI o * 3 + nI k = nI (3 * o + k) := by
  show nI o * nI 3 + nI k = _
  rw [pk_mul, nI_add, Nat.mul_comm]
theorem ob_iy3 (o k : Nat) : 3 * nI o + nI k = nI (3 * o + k) := by
  show nI 3 * nI o + nI k = _
  rw [pk_mul, nI_add]
theorem ob_cl {i : Nat} (h : i < 1024) : (nI i).toNatClampNeg = i := nI_clamp (by omega)
theorem ob_m1n (k : Nat) (h : k < 2 ^ 31) : ¬ nI k = -1 := by
  intro e
  have h1 := congrArg Int32.toInt e
  rw [nI_toInt h, show (-1 : Int32).toInt = -1 from by decide] at h1
  omega
theorem ob_nz {k : Nat} (h : k < 2 ^ 31) : nI k = 0 ↔ k = 0 := nI_eq h (by decide)
/-! ===== stores ===== -/
theorem ob_uu {f : Nat → Int32} {k : Nat} {x y : Int32} : upd (upd f k x) k y = upd f k y := by
  funext j; unfold upd; split <;> rfl
theorem ob_uuL {f : Nat → Int64} {k : Nat} {x y : Int64} : vp_updL (vp_updL f k x) k y = vp_updL f k y := by
  funext j; unfold vp_updL; split <;> rfl
theorem ob_ui {f : Nat → Int32} {k : Nat} {x : Int32} (h : f k = x) : upd f k x = f := by
  funext j; unfold upd; split
  · rename_i e; rw [e, h]
  · rfl
theorem ob_uiL {f : Nat → Int64} {k : Nat} {x : Int64} (h : f k = x) : vp_updL f k x = f := by
  funext j; unfold vp_updL; split
  · rename_i e; rw [e, h]
  · rfl
theorem ob_ua (f : Nat → Int32) (k : Nat) (x : Int32) (j : Nat) : upd f k x j = if j = k then x else f j := rfl
theorem ob_uaL (f : Nat → Int64) (k : Nat) (x : Int64) (j : Nat) : vp_updL f k x j = if j = k then x else f j := rfl
/-! ===== values ===== -/
theorem ob_num_b {v : Int64} (h : v = v.toInt32.toInt64) : -2147483648 ≤ v.toInt ∧ v.toInt < 2147483648 := by
  have e : v.toInt = v.toInt32.toInt := (congrArg Int64.toInt h).trans (Int32.toInt_toInt64 _)
  have h1 := Int32.le_toInt v.toInt32
  have h2 := Int32.toInt_lt v.toInt32
  omega
theorem ob_num_i (t : Int32) : t.toInt64 = t.toInt64.toInt32.toInt64 := by rw [Int32.toInt32_toInt64]
theorem ob_nnum {k : Nat} (h : 2147483648 ≤ k) (h2 : k < 2 ^ 63) : ¬ lN k = (lN k).toInt32.toInt64 := by
  intro e
  have := (ob_num_b e).2
  rw [pk_lT h2] at this
  omega
def ob_V (n : Nat) (v : Int64) : Prop := v = v.toInt32.toInt64 ∨ (∃ j, j ≤ 5 ∧ v = lN (8589934592 + j)) ∨ ∃ o, o < n ∧ v = lN (17179869184 + o)
theorem ob_V_up {n m : Nat} {v : Int64} (h : n ≤ m) (hv : ob_V n v) : ob_V m v := by
  rcases hv with h1 | h1 | ⟨o, ho, e⟩
  · exact Or.inl h1
  · exact Or.inr (Or.inl h1)
  · exact Or.inr (Or.inr ⟨o, by omega, e⟩)
theorem ob_V_i (n : Nat) (t : Int32) : ob_V n t.toInt64 := Or.inl (ob_num_i t)
theorem ob_V_s (n j : Nat) (h : j ≤ 5) : ob_V n (lN (8589934592 + j)) := Or.inr (Or.inl ⟨j, h, rfl⟩)
theorem ob_V_o {n o : Nat} (h : o < n) : ob_V n (lN (17179869184 + o)) := Or.inr (Or.inr ⟨o, h, rfl⟩)
theorem ob_V_U (n : Nat) : ob_V n 8589934592 := ob_V_s n 0 (by decide)
theorem ob_V_F (n : Nat) : ob_V n 8589934594 := ob_V_s n 2 (by decide)
theorem ob_V_T (n : Nat) : ob_V n 8589934595 := ob_V_s n 3 (by decide)
theorem ob_V_Ty (n : Nat) : ob_V n 8589934596 := ob_V_s n 4 (by decide)
theorem ob_V_Ra (n : Nat) : ob_V n 8589934597 := ob_V_s n 5 (by decide)
theorem ob_obj_toI (o : Nat) (h : o < 2 ^ 31) : 17179869184 + (nI o).toInt64 = lN (17179869184 + o) := by
  rw [nI_l h]
  show lN 17179869184 + lN o = _
  rw [lN_add]
theorem ob_spe_toI (o : Nat) (h : o < 2 ^ 31) : 8589934592 + (nI o).toInt64 = lN (8589934592 + o) := by
  rw [nI_l h]
  show lN 8589934592 + lN o = _
  rw [lN_add]
theorem ob_numb (o : Nat) : (lN (17179869184 + o) - 17179869184).toInt32 = nI o := by
  rw [show (17179869184 : Int64) = lN 17179869184 from rfl, lN_sub (by omega), lN_i, Nat.add_sub_cancel_left]
theorem ob_Tlt {v w : Int64} : v < w ↔ v.toInt < w.toInt := Int64.lt_iff_toInt_lt
theorem ob_Tle {v w : Int64} : v ≤ w ↔ v.toInt ≤ w.toInt := Int64.le_iff_toInt_le
theorem ob_TO : (17179869184 : Int64).toInt = 17179869184 := pk_lT (n := 17179869184) (by decide)
theorem ob_TU : (8589934592 : Int64).toInt = 8589934592 := pk_lT (n := 8589934592) (by decide)
theorem ob_TR : (8589934597 : Int64).toInt = 8589934597 := pk_lT (n := 8589934597) (by decide)
/-- a value is no object, or it is one -/
theorem ob_cls {n : Nat} {v : Int64} (h : ob_V n v) : v < 17179869184 ∨ ∃ o, o < n ∧ v = lN (17179869184 + o) := by
  rcases h with h1 | ⟨j, hj, rfl⟩ | h1
  · left
    rw [ob_Tlt, ob_TO]
    have := (ob_num_b h1).2
    omega
  · left
    rw [ob_Tlt, ob_TO, pk_lT (by omega)]
    omega
  · exact Or.inr h1
theorem ob_obj_ge (o : Nat) (h : o < 2 ^ 31) : (17179869184 : Int64) ≤ lN (17179869184 + o) := by
  rw [ob_Tle, ob_TO, pk_lT (by omega)]
  omega
theorem ob_obj_nlt (o : Nat) (h : o < 2 ^ 31) : ¬ lN (17179869184 + o) < (17179869184 : Int64) := by
  rw [ob_Tlt, ob_TO, pk_lT (by omega)]
  omega
theorem ob_obj_lt {o n : Nat} (h : o < n) (hn : n < 2 ^ 31) : lN (17179869184 + o) < 17179869184 + (nI n).toInt64 := by
  rw [ob_obj_toI n hn, pk_lLT (by omega) (by omega)]
  omega
theorem ob_lt_nle {v : Int64} (h : v < 17179869184) : ¬ (17179869184 : Int64) ≤ v := by
  rw [ob_Tle]
  rw [ob_Tlt] at h
  omega
theorem ob_ge_of {n : Nat} {v : Int64} (h : ob_V n v) (hg : (17179869184 : Int64) ≤ v) : ∃ o, o < n ∧ v = lN (17179869184 + o) := by
  rcases ob_cls h with h1 | h1
  · exact absurd hg (ob_lt_nle h1)
  · exact h1
