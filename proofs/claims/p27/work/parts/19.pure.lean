/-! Words for numbers: a share, a level, a strength, what is above. -/
abbrev f_lmin (x y : Int64) : Int64 := if y < x then y else x
def g_X6_share (x y z : Int32) : Int32 := if z = 0 then 0 else (x.toInt64 * y.toInt64 / z.toInt64).toInt32
def g_X4_level (f : Nat → Int32) : Int32 := f 1 / f 0
def g_X4_strength (f : Nat → Int32) : Int32 := if f 1 = 0 then 0 else (f_lmin 90 (((f 2).toInt64 + (f 4).toInt64) / (5 * (f 1).toInt64))).toInt32
def g_above (f : Nat → Int32) (x : Int32) (y : Int64) : Int32 := (f_lmax 0 (x.toInt64 - y * (f 1).toInt64)).toInt32
/-! Numbers as the machine has them, that stay small. -/
theorem ti_lo (x : Int32) : -2147483648 ≤ x.toInt := Int32.le_toInt x
theorem ti_hi (x : Int32) : x.toInt ≤ 2147483647 := by have := Int32.toInt_lt x; omega
theorem ti_add {x y : Int32} (h1 : -2147483648 ≤ x.toInt + y.toInt) (h2 : x.toInt + y.toInt ≤ 2147483647) : (x + y).toInt = x.toInt + y.toInt := by
  rw [Int32.toInt_add, Int.bmod_eq_of_le (by omega) (by omega)]
theorem ti_sub {x y : Int32} (h1 : -2147483648 ≤ x.toInt - y.toInt) (h2 : x.toInt - y.toInt ≤ 2147483647) : (x - y).toInt = x.toInt - y.toInt := by
  rw [Int32.toInt_sub, Int.bmod_eq_of_le (by omega) (by omega)]
theorem ti_mul {x y : Int32} (h1 : -2147483648 ≤ x.toInt * y.toInt) (h2 : x.toInt * y.toInt ≤ 2147483647) : (x * y).toInt = x.toInt * y.toInt := by
  rw [Int32.toInt_mul, Int.bmod_eq_of_le (by omega) (by omega)]
theorem ti_div {x y : Int32} (h1 : 0 ≤ x.toInt) (h2 : 0 < y.toInt) : (x / y).toInt = x.toInt / y.toInt := by
  have h3 := ti_hi x
  have h4 : x.toInt / y.toInt ≤ x.toInt := Int.ediv_le_self _ h1
  have h5 : 0 ≤ x.toInt / y.toInt := Int.ediv_nonneg h1 (by omega)
  rw [Int32.toInt_div, Int.tdiv_eq_ediv_of_nonneg h1, Int.bmod_eq_of_le (by omega) (by omega)]
theorem tl_lo (x : Int64) : -9223372036854775808 ≤ x.toInt := Int64.le_toInt x
theorem tl_hi (x : Int64) : x.toInt ≤ 9223372036854775807 := by have := Int64.toInt_lt x; omega
theorem tl_add {x y : Int64} (h1 : -9223372036854775808 ≤ x.toInt + y.toInt) (h2 : x.toInt + y.toInt ≤ 9223372036854775807) : (x + y).toInt = x.toInt + y.toInt := by
  rw [Int64.toInt_add, Int.bmod_eq_of_le (by omega) (by omega)]
theorem tl_sub {x y : Int64} (h1 : -9223372036854775808 ≤ x.toInt - y.toInt) (h2 : x.toInt - y.toInt ≤ 9223372036854775807) : (x - y).toInt = x.toInt - y.toInt := by
  rw [Int64.toInt_sub, Int.bmod_eq_of_le (by omega) (by omega)]
theorem tl_mul {x y : Int64} (h1 : -9223372036854775808 ≤ x.toInt * y.toInt) (h2 : x.toInt * y.toInt ≤ 9223372036854775807) : (x * y).toInt = x.toInt * y.toInt := by
  rw [Int64.toInt_mul, Int.bmod_eq_of_le (by omega) (by omega)]
theorem tl_div {x y : Int64} (h1 : 0 ≤ x.toInt) (h2 : 0 < y.toInt) : (x / y).toInt = x.toInt / y.toInt := by
  have h3 := tl_hi x
  have h4 : x.toInt / y.toInt ≤ x.toInt := Int.ediv_le_self _ h1
  have h5 : 0 ≤ x.toInt / y.toInt := Int.ediv_nonneg h1 (by omega)
  rw [Int64.toInt_div, Int.tdiv_eq_ediv_of_nonneg h1, Int.bmod_eq_of_le (by omega) (by omega)]
theorem tl_32 {x : Int64} (h1 : -2147483648 ≤ x.toInt) (h2 : x.toInt ≤ 2147483647) : x.toInt32.toInt = x.toInt := by
  rw [Int64.toInt_toInt32, Int.bmod_eq_of_le (by omega) (by omega)]
theorem tl_of (x : Int32) : x.toInt64.toInt = x.toInt := Int32.toInt_toInt64 x
theorem ti_le {x y : Int32} : x ≤ y ↔ x.toInt ≤ y.toInt := Int32.le_iff_toInt_le
theorem ti_lt {x y : Int32} : x < y ↔ x.toInt < y.toInt := Int32.lt_iff_toInt_lt
theorem tl_le {x y : Int64} : x ≤ y ↔ x.toInt ≤ y.toInt := Int64.le_iff_toInt_le
theorem tl_lt {x y : Int64} : x < y ↔ x.toInt < y.toInt := Int64.lt_iff_toInt_lt
theorem ti_eq {x y : Int32} (h : x.toInt = y.toInt) : x = y := Int32.toInt_inj.mp h
theorem tl_eq {x y : Int64} (h : x.toInt = y.toInt) : x = y := Int64.toInt_inj.mp h
theorem ti_min (x y : Int32) : (f_min x y).toInt = min x.toInt y.toInt := by
  show (if y < x then y else x).toInt = _
  by_cases h : y < x
  · rw [if_pos h]; have := ti_lt.mp h; omega
  · rw [if_neg h]; have := mt ti_lt.mpr h; omega
/-- a product of numbers that are not negative stays in its bounds -/
theorem in_mul {x y X Y : Int} (h1 : 0 ≤ x) (h2 : x ≤ X) (h3 : 0 ≤ y) (h4 : y ≤ Y) : 0 ≤ x * y ∧ x * y ≤ X * Y := ⟨Int.mul_nonneg h1 h3, Int.mul_le_mul h2 h4 h3 (by omega)⟩
theorem tp_pos {x y z : Int32} (hz : 1 ≤ z.toInt) : f_X3_portion x.toInt64 y.toInt64 z.toInt64 = (x.toInt64 * y.toInt64 / z.toInt64).toInt32 := by
  unfold f_X3_portion
  rw [if_pos]
  rw [lg_cmp_ge, tl_le, tl_of]
  exact hz
theorem tp_share {x y z : Int32} (hz : 0 ≤ z.toInt) : f_X3_portion x.toInt64 y.toInt64 z.toInt64 = g_X6_share x y z := by
  unfold g_X6_share
  by_cases h : z = 0
  · rw [if_pos h]
    subst h
    unfold f_X3_portion
    rw [if_neg (by rw [lg_cmp_ge, tl_le]; decide)]
  · rw [if_neg h]
    exact tp_pos (by
      have : z.toInt ≠ 0 := fun e => h (ti_eq e)
      omega)
/-- a share's number -/
theorem tp_val {x y z : Int32} (hx : 0 ≤ x.toInt) (hy : 0 ≤ y.toInt) (hz : 1 ≤ z.toInt) (hb : x.toInt * y.toInt / z.toInt ≤ 2147483647) : (g_X6_share x y z).toInt = x.toInt * y.toInt / z.toInt := by
  have h0 : ¬ z = 0 := fun e => by subst e; exact absurd hz (by decide)
  have hm := in_mul hx (ti_hi x) hy (ti_hi y)
  have e1 : (x.toInt64 * y.toInt64).toInt = x.toInt * y.toInt := by
    rw [tl_mul (by rw [tl_of, tl_of]; omega) (by rw [tl_of, tl_of]; omega), tl_of, tl_of]
  unfold g_X6_share
  rw [if_neg h0, tl_32]
  · rw [tl_div (by rw [e1]; omega) (by rw [tl_of]; omega), e1, tl_of]
  · rw [tl_div (by rw [e1]; omega) (by rw [tl_of]; omega), e1, tl_of]
    have := Int.ediv_nonneg hm.1 (show 0 ≤ z.toInt by omega)
    omega
  · rw [tl_div (by rw [e1]; omega) (by rw [tl_of]; omega), e1, tl_of]
    exact hb
/-! One pond's numbers. -/
theorem ti_3 : (3 : Int32).toInt = 3 := rfl
theorem ti_10 : (10 : Int32).toInt = 10 := rfl
theorem te_level {f g : Nat → Int32} (f0 : f 0 = 3) (g0 : g 0 = 3) (e1 : f 1 = g 1) (l1 : 0 ≤ (f 1).toInt) : f_X1_level f = g_X4_level g ∧ (f_X1_level f).toInt = (f 1).toInt / 3 := by
  have hv : (f_X1_level f).toInt = (f 1).toInt / 3 := by
    have h := tp_share (x := f 1) (y := 1) (z := 3) (by decide)
    have h2 := tp_val (x := f 1) (y := 1) (z := 3) l1 (by decide) (by decide) (by
      have := ti_hi (f 1)
      have e : (1 : Int32).toInt = 1 := rfl
      have e3 : (3 : Int32).toInt = 3 := rfl
      rw [e, e3, Int.mul_one]
      omega)
    unfold f_X1_level
    rw [f0]
    have h3 : f_X3_portion (f 1).toInt64 1 (3 : Int32).toInt64 = f_X3_portion (f 1).toInt64 (1 : Int32).toInt64 (3 : Int32).toInt64 := rfl
    rw [h3, h, h2, show (1 : Int32).toInt = 1 from rfl, Int.mul_one, ti_3]
  refine ⟨ti_eq ?_, hv⟩
  rw [hv]
  unfold g_X4_level
  rw [g0, ← e1, ti_div l1 (by decide), ti_3]
theorem te_str {f g : Nat → Int32} (e1 : f 1 = g 1) (e2 : f 2 = g 2) (e4 : f 4 = g 4) (l1 : 0 ≤ (f 1).toInt) (l2 : 0 ≤ (f 2).toInt) (l4 : 0 ≤ (f 4).toInt) : f_X1_strength f = g_X4_strength g ∧ 0 ≤ (f_X1_strength f).toInt ∧ (f_X1_strength f).toInt ≤ 90 := by
  have h2 := ti_hi (f 2)
  have h4 := ti_hi (f 4)
  have h1 := ti_hi (f 1)
  have eS : ((f 2).toInt64 + (f 4).toInt64).toInt = (f 2).toInt + (f 4).toInt := by
    rw [tl_add (by rw [tl_of, tl_of]; omega) (by rw [tl_of, tl_of]; omega), tl_of, tl_of]
  have eZ : ((5 : Int64) * (f 1).toInt64).toInt = 5 * (f 1).toInt := by
    rw [tl_mul (by rw [tl_of, show (5 : Int64).toInt = 5 from rfl]; omega) (by rw [tl_of, show (5 : Int64).toInt = 5 from rfl]; omega), tl_of]
    rfl
  by_cases hz : f 1 = 0
  · have e : f_X1_strength f = 0 := by
      unfold f_X1_strength f_X3_portion
      rw [hz, if_neg (by rw [lg_cmp_ge, tl_le]; decide)]
      rfl
    rw [e]
    refine ⟨?_, by decide, by decide⟩
    unfold g_X4_strength
    rw [if_pos (by rw [← e1]; exact hz)]
  · have hp : 1 ≤ (f 1).toInt := by
      have : (f 1).toInt ≠ 0 := fun e => hz (ti_eq e)
      omega
    have eQ : (((f 2).toInt64 + (f 4).toInt64) / (5 * (f 1).toInt64)).toInt = ((f 2).toInt + (f 4).toInt) / (5 * (f 1).toInt) := by
      rw [tl_div (by rw [eS]; omega) (by rw [eZ]; omega), eS, eZ]
    have q0 : 0 ≤ ((f 2).toInt + (f 4).toInt) / (5 * (f 1).toInt) := Int.ediv_nonneg (by omega) (by omega)
    have q1 : ((f 2).toInt + (f 4).toInt) / (5 * (f 1).toInt) ≤ 858993459 := by
      have h5 : ((f 2).toInt + (f 4).toInt) / (5 * (f 1).toInt) ≤ ((f 2).toInt + (f 4).toInt) / 5 := by
        rw [← Int.ediv_ediv_of_nonneg (by omega)]
        exact Int.ediv_le_self _ (by omega)
      omega
    have e32 : (((f 2).toInt64 + (f 4).toInt64) / (5 * (f 1).toInt64)).toInt32.toInt = ((f 2).toInt + (f 4).toInt) / (5 * (f 1).toInt) := by
      rw [tl_32 (by rw [eQ]; omega) (by rw [eQ]; omega), eQ]
    have eP : f_X3_portion ((f 2).toInt64 + (f 4).toInt64) 1 (5 * (f 1).toInt64) = (((f 2).toInt64 + (f 4).toInt64) / (5 * (f 1).toInt64)).toInt32 := by
      unfold f_X3_portion
      rw [if_pos (by rw [lg_cmp_ge, tl_le, eZ]; show (1 : Int) ≤ _; omega), Int64.mul_one]
    have eV : (f_X1_strength f).toInt = min 90 (((f 2).toInt + (f 4).toInt) / (5 * (f 1).toInt)) := by
      unfold f_X1_strength
      rw [ti_min, eP, e32]
      rfl
    refine ⟨?_, by rw [eV]; omega, by rw [eV]; omega⟩
    unfold g_X4_strength
    rw [if_neg (by rw [← e1]; exact hz), ← e1, ← e2, ← e4]
    apply ti_eq
    rw [eV]
    unfold f_lmin
    by_cases hc : ((f 2).toInt64 + (f 4).toInt64) / (5 * (f 1).toInt64) < 90
    · rw [if_pos hc, e32]
      have := tl_lt.mp hc
      rw [eQ, show (90 : Int64).toInt = 90 from rfl] at this
      omega
    · rw [if_neg hc]
      have := mt tl_lt.mpr hc
      rw [eQ, show (90 : Int64).toInt = 90 from rfl] at this
      rw [show (90 : Int64).toInt32.toInt = 90 from rfl]
      omega
theorem tr_up (e : Int32) : f_X3_roundedUp e 1000 = (e + 999) / 1000 := by
  unfold f_X3_roundedUp
  rw [if_pos (by decide), Int32.sub_eq_add_neg, Int32.add_assoc]
  rfl
theorem tr_2 (e : Int32) : f_X3_roundedUp e 2 = (e + 1) / 2 := by
  unfold f_X3_roundedUp
  rw [if_pos (by decide), Int32.sub_eq_add_neg, Int32.add_assoc]
  rfl
/-- how much brine goes: not less than nothing -/
theorem tw_dry {x m st : Int32} (hx : 0 ≤ x.toInt) (hx2 : x.toInt ≤ 18) (hm : 0 ≤ m.toInt) (hm2 : m.toInt ≤ 3 * x.toInt / 10) (h0 : 0 ≤ st.toInt) (h9 : st.toInt ≤ 90) : 0 ≤ ((((3 : Int32) * x - 10 * m) * (100 - st) + 999) / 1000).toInt := by
  have a1 : ((3 : Int32) * x).toInt = 3 * x.toInt := by rw [ti_mul (by rw [ti_3]; omega) (by rw [ti_3]; omega), ti_3]
  have a2 : ((10 : Int32) * m).toInt = 10 * m.toInt := by rw [ti_mul (by rw [ti_10]; omega) (by rw [ti_10]; omega), ti_10]
  have a3 : ((3 : Int32) * x - 10 * m).toInt = 3 * x.toInt - 10 * m.toInt := by rw [ti_sub (by rw [a1, a2]; omega) (by rw [a1, a2]; omega), a1, a2]
  have a4 : ((100 : Int32) - st).toInt = 100 - st.toInt := by rw [ti_sub (by show -2147483648 ≤ (100 : Int) - _; omega) (by show (100 : Int) - _ ≤ _; omega)]; rfl
  have a5 := in_mul (x := 3 * x.toInt - 10 * m.toInt) (X := 54) (y := 100 - st.toInt) (Y := 100) (by omega) (by omega) (by omega) (by omega)
  have a6 : (((3 : Int32) * x - 10 * m) * (100 - st)).toInt = (3 * x.toInt - 10 * m.toInt) * (100 - st.toInt) := by rw [ti_mul (by rw [a3, a4]; omega) (by rw [a3, a4]; omega), a3, a4]
  have a7 : (((3 : Int32) * x - 10 * m) * (100 - st) + 999).toInt = (3 * x.toInt - 10 * m.toInt) * (100 - st.toInt) + 999 := by
    rw [ti_add (by rw [a6, show (999 : Int32).toInt = 999 from rfl]; omega) (by rw [a6, show (999 : Int32).toInt = 999 from rfl]; omega), a6]
    rfl
  rw [ti_div (by rw [a7]; omega) (by decide), a7]
  exact Int.ediv_nonneg (by omega) (by decide)
theorem ti_half {x : Int32} (h : 0 ≤ x.toInt) : (x / 2).toInt = x.toInt / 2 := by
  rw [ti_div h (by decide)]
  rfl
/-- of brine at most a half goes -/
theorem tw_go {b w : Int32} (hb : 0 ≤ b.toInt) (hw : 0 ≤ w.toInt) : 0 ≤ (b - f_min (b / 2) w).toInt ∧ (b - f_min (b / 2) w).toInt ≤ b.toInt := by
  have hh := ti_half hb
  have hm := ti_min (b / 2) w
  rw [hh] at hm
  have := ti_hi b
  rw [ti_sub (by omega) (by omega)]
  omega
/-- what falls of nothing: nothing -/
theorem ta_0 {f : Nat → Int32} {y : Int64} (hy : 0 ≤ y.toInt) (hy2 : y.toInt ≤ 300) (l1 : 0 ≤ (f 1).toInt) : g_above f 0 y = 0 := by
  have h1 := ti_hi (f 1)
  have hm := in_mul hy hy2 l1 h1
  have e : (y * (f 1).toInt64).toInt = y.toInt * (f 1).toInt := by rw [tl_mul (by rw [tl_of]; omega) (by rw [tl_of]; omega), tl_of]
  unfold g_above f_lmax
  have e2 : ((0 : Int32).toInt64 - y * (f 1).toInt64).toInt = - (y.toInt * (f 1).toInt) := by
    rw [tl_sub (by rw [e]; show (-9223372036854775808 : Int) ≤ 0 - _; omega) (by rw [e]; show (0 : Int) - _ ≤ _; omega), e]
    show (0 : Int) - _ = _
    omega
  by_cases hc : (0 : Int32).toInt64 - y * (f 1).toInt64 < 0
  · rw [if_pos hc]; rfl
  · rw [if_neg hc]
    have h3 := mt tl_lt.mpr hc
    rw [e2, show (0 : Int64).toInt = 0 from rfl] at h3
    have h4 : (0 : Int32).toInt64 - y * (f 1).toInt64 = 0 := tl_eq (by rw [e2]; show _ = (0 : Int); omega)
    rw [h4]
    rfl
/-- what falls, and what stays -/
theorem ta_val {f : Nat → Int32} {x : Int32} {y : Int64} (hy : 0 ≤ y.toInt) (hy2 : y.toInt ≤ 300) (l1 : 0 ≤ (f 1).toInt) (hx : 0 ≤ x.toInt) : 0 ≤ (g_above f x y).toInt ∧ (g_above f x y).toInt ≤ x.toInt := by
  have h1 := ti_hi (f 1)
  have h2 := ti_hi x
  have hm := in_mul hy hy2 l1 h1
  have e : (y * (f 1).toInt64).toInt = y.toInt * (f 1).toInt := by rw [tl_mul (by rw [tl_of]; omega) (by rw [tl_of]; omega), tl_of]
  have e2 : (x.toInt64 - y * (f 1).toInt64).toInt = x.toInt - y.toInt * (f 1).toInt := by
    rw [tl_sub (by rw [e, tl_of]; omega) (by rw [e, tl_of]; omega), e, tl_of]
  unfold g_above f_lmax
  by_cases hc : x.toInt64 - y * (f 1).toInt64 < 0
  · rw [if_pos hc]
    exact ⟨by decide, by rw [show (0 : Int64).toInt32.toInt = 0 from rfl]; exact hx⟩
  · rw [if_neg hc]
    have h3 := mt tl_lt.mpr hc
    rw [e2, show (0 : Int64).toInt = 0 from rfl] at h3
    rw [tl_32 (by rw [e2]; omega) (by rw [e2]; omega), e2]
    omega
theorem ta_eq (f : Nat → Int32) (x y : Int32) : f_X1_above f x y = g_above f x y.toInt64 := rfl
/-! A day's parts, pond by pond. -/
def lp (b : Nat) (F : (Nat → Int32) → Nat → Int32) : Nat → Nat → sS → sS
  | 0, _, σ => σ
  | n + 1, k, σ => lp b F n (k + 1) (va_up σ (b + k) (F (σ (b + k))))
theorem lp_out {b : Nat} {F : (Nat → Int32) → Nat → Int32} {i : Nat} : ∀ (n k : Nat) (σ : sS), i < b + k ∨ b + k + n ≤ i → lp b F n k σ i = σ i
  | 0, _, _, _ => rfl
  | n + 1, k, σ, h => (lp_out n (k + 1) _ (by omega)).trans (va_up_ne _ _ (by omega))
theorem lp_at {b : Nat} {F : (Nat → Int32) → Nat → Int32} {j : Nat} : ∀ (n k : Nat) (σ : sS), k ≤ j → j < k + n → lp b F n k σ (b + j) = F (σ (b + j))
  | 0, k, _, h1, h2 => absurd h2 (by omega)
  | n + 1, k, σ, h1, h2 => by
    show lp b F n (k + 1) (va_up σ (b + k) (F (σ (b + k)))) (b + j) = _
    by_cases e : j = k
    · subst e
      rw [lp_out n (j + 1) _ (Or.inl (by omega)), va_up_self]
    · rw [lp_at n (k + 1) _ (by omega) (by omega), va_up_ne _ _ (by omega)]
/-- a pond's day -/
def f_pF (s z : Int32) (f : Nat → Int32) : Nat → Int32 := f_X1_dropMinerals (f_X1_mixFresh (f_X1_dryOut (f_X1_rainFalls (upd f 11 0) z) s))
theorem lp_pond {σ : sS} {r k : Nat} {z : Int32} : f_X2_pond σ r k z = va_up σ (5 + 8 * r + k) (f_pF (σ (1 + r) 2 + σ (1 + r) 3) z (σ (5 + 8 * r + k))) := by
  unfold f_X2_pond f_pF
  have hne : (1 + r) ≠ 5 + 8 * r + k := by omega
  simp only [va_up_self, sup_up, va_up_ne _ _ hne]
theorem lp_ponds {r : Nat} {z s : Int32} : ∀ (n k : Nat) (σ : sS), σ (1 + r) 2 + σ (1 + r) 3 = s → f_X2_ponds r z n k σ = lp (5 + 8 * r) (f_pF s z) n k σ
  | 0, _, _, _ => rfl
  | n + 1, k, σ, h => by
    show f_X2_ponds r z n (k + 1) (f_X2_pond σ r k z) = lp (5 + 8 * r) (f_pF s z) n (k + 1) _
    rw [lp_pond, h]
    exact lp_ponds n (k + 1) _ (by rw [va_up_ne _ _ (by omega)]; exact h)
/-- the row with its day begun: the sea, the gates -/
def f_flown (σ : sS) (r : Nat) (x y : Int32) : sS := f_X2_letBrineFlowOn (f_X2_letSeaIn (f_X2_start σ r x y) r) r
theorem fl_row {r : Nat} {q : Nat} (hq : q = 1 ∨ q = 2 ∨ q = 3) : ∀ (τ : sS), f_X2_letBrineFlowOn (f_X2_letSeaIn τ r) r (1 + r) q = τ (1 + r) q := fun τ => by
  have hf : ∀ (n : Nat) (τ : sS), f_X2_flow r n τ (1 + r) = τ (1 + r) := by
    intro n
    induction n with
    | zero => intro τ; rfl
    | succ n ih =>
      intro τ
      show f_X2_flow r n (f_X2_flowStep τ r n) (1 + r) = _
      rw [ih]
      unfold f_X2_flowStep
      split
      · rfl
      · split
        · rfl
        · exact k_give (by omega) (by omega)
  unfold f_X2_letBrineFlowOn
  rw [hf]
  unfold f_X2_letSeaIn
  split
  · rfl
  · split
    · rfl
    · unfold f_X2_sea
      rw [va_up_self, va_up_ne _ _ (by omega)]
      rcases hq with rfl | rfl | rfl <;> rfl
theorem dy_at {σ : sS} {r j : Nat} {x y z : Int32} (hj : j < 8) : f_X2_letDayGoBy σ r x y z (5 + 8 * r + j) = f_pF (x + y) z (f_flown σ r x y (5 + 8 * r + j)) := by
  have hs : f_flown σ r x y (1 + r) 2 + f_flown σ r x y (1 + r) 3 = x + y := by
    unfold f_flown
    rw [fl_row (Or.inr (Or.inl rfl)), fl_row (Or.inr (Or.inr rfl))]
    unfold f_X2_start
    simp only [va_up_self]
    rfl
  show f_X2_ponds r z 8 0 (f_flown σ r x y) (5 + 8 * r + j) = _
  rw [lp_ponds 8 0 _ hs, lp_at 8 0 _ (by omega) (by omega)]
theorem dy_day {σ : sS} {r : Nat} {x y z : Int32} : f_X2_letDayGoBy σ r x y z (1 + r) 1 = σ (1 + r) 1 + 1 := by
  have hs : f_flown σ r x y (1 + r) 2 + f_flown σ r x y (1 + r) 3 = x + y := by
    unfold f_flown
    rw [fl_row (Or.inr (Or.inl rfl)), fl_row (Or.inr (Or.inr rfl))]
    unfold f_X2_start
    simp only [va_up_self]
    rfl
  show f_X2_ponds r z 8 0 (f_flown σ r x y) (1 + r) 1 = _
  rw [lp_ponds 8 0 _ hs, lp_out 8 0 _ (Or.inl (by omega))]
  unfold f_flown
  rw [fl_row (Or.inl rfl)]
  unfold f_X2_start
  simp only [va_up_self]
  rfl
theorem te_tide {d : Int32} (h0 : 0 ≤ d.toInt) (h1 : d.toInt ≤ 100000) : 2 ≤ (f_X3_tideAt d).toInt ∧ (f_X3_tideAt d).toInt ≤ 9 := by
  have e14 : (14 : Int32).toInt = 14 := rfl
  have a1 : (d / 14).toInt = d.toInt / 14 := by rw [ti_div h0 (by decide), e14]
  have a2 : (d / 14 * 14).toInt = d.toInt / 14 * 14 := by rw [ti_mul (by rw [a1, e14]; omega) (by rw [a1, e14]; omega), a1, e14]
  have a3 : (f_rem d 14).toInt = d.toInt - d.toInt / 14 * 14 := by
    show (d - d / 14 * 14).toInt = _
    rw [ti_sub (by rw [a2]; omega) (by rw [a2]; omega), a2]
  have a4 : (f_rem d 14 - 7).toInt = d.toInt - d.toInt / 14 * 14 - 7 := by
    rw [ti_sub (by rw [a3]; show _ ≤ _ - (7 : Int); omega) (by rw [a3]; show _ - (7 : Int) ≤ _; omega), a3]
    rfl
  have a5 : 0 ≤ (f_abs (f_rem d 14 - 7)).toInt ∧ (f_abs (f_rem d 14 - 7)).toInt ≤ 7 := by
    show 0 ≤ (if 0 ≤ f_rem d 14 - 7 then f_rem d 14 - 7 else 0 - (f_rem d 14 - 7)).toInt ∧ (if 0 ≤ f_rem d 14 - 7 then f_rem d 14 - 7 else 0 - (f_rem d 14 - 7)).toInt ≤ 7
    by_cases h : 0 ≤ f_rem d 14 - 7
    · rw [if_pos h]
      have := ti_le.mp h
      rw [show (0 : Int32).toInt = 0 from rfl] at this
      omega
    · rw [if_neg h]
      have := mt ti_le.mpr h
      rw [show (0 : Int32).toInt = 0 from rfl] at this
      have e : (0 - (f_rem d 14 - 7)).toInt = - (f_rem d 14 - 7).toInt := by
        rw [ti_sub (by show _ ≤ (0 : Int) - _; omega) (by show (0 : Int) - _ ≤ _; omega)]
        show (0 : Int) - _ = _
        omega
      omega
  have a6 : (f_X3_tideAt d).toInt = 2 + (f_abs (f_rem d 14 - 7)).toInt := by
    unfold f_X3_tideAt
    rw [ti_add (by show _ ≤ (2 : Int) + _; omega) (by show (2 : Int) + _ ≤ _; omega)]
    rfl
  omega
/-- of what a pond has, a part as brine goes: at most a half -/
theorem ts_half {a x b : Int32} (ha : 0 ≤ a.toInt) (hx : 0 ≤ x.toInt) (hb : 1 ≤ b.toInt) (h2 : 2 * x.toInt ≤ b.toInt) : 0 ≤ (g_X6_share a x b).toInt ∧ 2 * (g_X6_share a x b).toInt ≤ a.toInt := by
  have hq : 0 ≤ a.toInt * x.toInt / b.toInt := Int.ediv_nonneg (Int.mul_nonneg ha hx) (by omega)
  have hm : a.toInt * x.toInt / b.toInt * b.toInt ≤ a.toInt * x.toInt := Int.ediv_mul_le _ (by omega)
  have hm2 : a.toInt * (2 * x.toInt) ≤ a.toInt * b.toInt := Int.mul_le_mul_of_nonneg_left h2 ha
  have h3 : 2 * (a.toInt * x.toInt / b.toInt) ≤ a.toInt := by
    apply Int.le_of_mul_le_mul_right (a := b.toInt) _ (by omega)
    have e1 : a.toInt * (2 * x.toInt) = 2 * (a.toInt * x.toInt) := by rw [Int.mul_left_comm]
    have e2 : 2 * (a.toInt * x.toInt / b.toInt) * b.toInt = 2 * (a.toInt * x.toInt / b.toInt * b.toInt) := Int.mul_assoc _ _ _
    omega
  have hh := ti_hi a
  have hv := tp_val ha hx hb (by omega)
  rw [hv]
  exact ⟨hq, h3⟩
/-! A row with salt: what its amounts are, in sum. -/
abbrev pI (f : Nat → Int32) : Prop := 1 ≤ (f 0).toInt ∧ (f 0).toInt ≤ 9 ∧ 0 ≤ (f 1).toInt ∧ 0 ≤ (f 2).toInt ∧ 0 ≤ (f 3).toInt ∧ 0 ≤ (f 4).toInt ∧ 0 ≤ (f 5).toInt ∧ 0 ≤ (f 6).toInt ∧ 0 ≤ (f 7).toInt ∧ f 10 = 0
def w1 (f : Nat → Int32) : Int := (f 1).toInt + (f 5).toInt
def w2 (f : Nat → Int32) : Int := (f 2).toInt + (f 6).toInt
def w3 (f : Nat → Int32) : Int := (f 3).toInt + (f 4).toInt + (f 7).toInt
def S8 (w : (Nat → Int32) → Int) (σ : sS) : Int := w (σ (5 + 8 * 0 + 0)) + w (σ (5 + 8 * 0 + 1)) + w (σ (5 + 8 * 0 + 2)) + w (σ (5 + 8 * 0 + 3)) + w (σ (5 + 8 * 0 + 4)) + w (σ (5 + 8 * 0 + 5)) + w (σ (5 + 8 * 0 + 6)) + w (σ (5 + 8 * 0 + 7))
theorem S8_up {w : (Nat → Int32) → Int} {σ : sS} {k : Nat} {g : Nat → Int32} (hk : k < 8) : S8 w (va_up σ (5 + 8 * 0 + k) g) = S8 w σ - w (σ (5 + 8 * 0 + k)) + w g := by
  have ne : ∀ j, j ≠ k → va_up σ (5 + 8 * 0 + k) g (5 + 8 * 0 + j) = σ (5 + 8 * 0 + j) := fun j hj => va_up_ne _ _ (by omega)
  unfold S8
  rcases (show k = 0 ∨ k = 1 ∨ k = 2 ∨ k = 3 ∨ k = 4 ∨ k = 5 ∨ k = 6 ∨ k = 7 by omega) with rfl | rfl | rfl | rfl | rfl | rfl | rfl | rfl
  · rw [va_up_self, ne 1 (by omega), ne 2 (by omega), ne 3 (by omega), ne 4 (by omega), ne 5 (by omega), ne 6 (by omega), ne 7 (by omega)]; omega
  · rw [va_up_self, ne 0 (by omega), ne 2 (by omega), ne 3 (by omega), ne 4 (by omega), ne 5 (by omega), ne 6 (by omega), ne 7 (by omega)]; omega
  · rw [va_up_self, ne 0 (by omega), ne 1 (by omega), ne 3 (by omega), ne 4 (by omega), ne 5 (by omega), ne 6 (by omega), ne 7 (by omega)]; omega
  · rw [va_up_self, ne 0 (by omega), ne 1 (by omega), ne 2 (by omega), ne 4 (by omega), ne 5 (by omega), ne 6 (by omega), ne 7 (by omega)]; omega
  · rw [va_up_self, ne 0 (by omega), ne 1 (by omega), ne 2 (by omega), ne 3 (by omega), ne 5 (by omega), ne 6 (by omega), ne 7 (by omega)]; omega
  · rw [va_up_self, ne 0 (by omega), ne 1 (by omega), ne 2 (by omega), ne 3 (by omega), ne 4 (by omega), ne 6 (by omega), ne 7 (by omega)]; omega
  · rw [va_up_self, ne 0 (by omega), ne 1 (by omega), ne 2 (by omega), ne 3 (by omega), ne 4 (by omega), ne 5 (by omega), ne 7 (by omega)]; omega
  · rw [va_up_self, ne 0 (by omega), ne 1 (by omega), ne 2 (by omega), ne 3 (by omega), ne 4 (by omega), ne 5 (by omega), ne 6 (by omega)]; omega
theorem S8_out {w : (Nat → Int32) → Int} {σ τ : sS} (h : ∀ j, j < 8 → τ (5 + 8 * 0 + j) = σ (5 + 8 * 0 + j)) : S8 w τ = S8 w σ := by
  unfold S8
  rw [h 0 (by omega), h 1 (by omega), h 2 (by omega), h 3 (by omega), h 4 (by omega), h 5 (by omega), h 6 (by omega), h 7 (by omega)]
theorem S8_ge {w : (Nat → Int32) → Int} {σ : sS} (h : ∀ j, j < 8 → 0 ≤ w (σ (5 + 8 * 0 + j))) {k : Nat} (hk : k < 8) : w (σ (5 + 8 * 0 + k)) ≤ S8 w σ := by
  have h0 := h 0 (by omega)
  have h1 := h 1 (by omega)
  have h2 := h 2 (by omega)
  have h3 := h 3 (by omega)
  have h4 := h 4 (by omega)
  have h5 := h 5 (by omega)
  have h6 := h 6 (by omega)
  have h7 := h 7 (by omega)
  unfold S8
  rcases (show k = 0 ∨ k = 1 ∨ k = 2 ∨ k = 3 ∨ k = 4 ∨ k = 5 ∨ k = 6 ∨ k = 7 by omega) with rfl | rfl | rfl | rfl | rfl | rfl | rfl | rfl <;> omega
theorem S8_ge2 {w : (Nat → Int32) → Int} {σ : sS} (h : ∀ j, j < 8 → 0 ≤ w (σ (5 + 8 * 0 + j))) {k : Nat} (hk : k < 7) : w (σ (5 + 8 * 0 + k)) + w (σ (5 + 8 * 0 + (k + 1))) ≤ S8 w σ := by
  have h0 := h 0 (by omega)
  have h1 := h 1 (by omega)
  have h2 := h 2 (by omega)
  have h3 := h 3 (by omega)
  have h4 := h 4 (by omega)
  have h5 := h 5 (by omega)
  have h6 := h 6 (by omega)
  have h7 := h 7 (by omega)
  unfold S8
  rcases (show k = 0 ∨ k = 1 ∨ k = 2 ∨ k = 3 ∨ k = 4 ∨ k = 5 ∨ k = 6 by omega) with rfl | rfl | rfl | rfl | rfl | rfl | rfl
  · show w (σ (5 + 8 * 0 + 0)) + w (σ (5 + 8 * 0 + 1)) ≤ _; omega
  · show w (σ (5 + 8 * 0 + 1)) + w (σ (5 + 8 * 0 + 2)) ≤ _; omega
  · show w (σ (5 + 8 * 0 + 2)) + w (σ (5 + 8 * 0 + 3)) ≤ _; omega
  · show w (σ (5 + 8 * 0 + 3)) + w (σ (5 + 8 * 0 + 4)) ≤ _; omega
  · show w (σ (5 + 8 * 0 + 4)) + w (σ (5 + 8 * 0 + 5)) ≤ _; omega
  · show w (σ (5 + 8 * 0 + 5)) + w (σ (5 + 8 * 0 + 6)) ≤ _; omega
  · show w (σ (5 + 8 * 0 + 6)) + w (σ (5 + 8 * 0 + 7)) ≤ _; omega
theorem pI_w {f : Nat → Int32} (h : pI f) : 0 ≤ w1 f ∧ 0 ≤ w2 f ∧ 0 ≤ w3 f := by
  obtain ⟨-, -, h1, h2, h3, h4, h5, h6, h7, -⟩ := h
  unfold w1 w2 w3
  omega
/-- a row's ponds are sound, their sums in bounds -/
def rI (B1 B2 B3 : Int) (σ : sS) : Prop := (∀ k, k < 8 → pI (σ (5 + 8 * 0 + k))) ∧ S8 w1 σ ≤ B1 ∧ S8 w2 σ ≤ B2 ∧ S8 w3 σ ≤ B3
theorem rI_b {B1 B2 B3 : Int} {σ : sS} (h : rI B1 B2 B3 σ) {k : Nat} (hk : k < 8) : w1 (σ (5 + 8 * 0 + k)) ≤ B1 ∧ w2 (σ (5 + 8 * 0 + k)) ≤ B2 ∧ w3 (σ (5 + 8 * 0 + k)) ≤ B3 := by
  have a := S8_ge (w := w1) (fun j hj => (pI_w (h.1 j hj)).1) hk
  have b := S8_ge (w := w2) (fun j hj => (pI_w (h.1 j hj)).2.1) hk
  have c := S8_ge (w := w3) (fun j hj => (pI_w (h.1 j hj)).2.2) hk
  have := h.2
  omega
theorem rI_out {B1 B2 B3 : Int} {σ τ : sS} (h : rI B1 B2 B3 σ) (e : ∀ j, j < 8 → τ (5 + 8 * 0 + j) = σ (5 + 8 * 0 + j)) : rI B1 B2 B3 τ := by
  refine ⟨fun k hk => by rw [e k hk]; exact h.1 k hk, ?_⟩
  rw [S8_out e, S8_out e, S8_out e]
  exact h.2
theorem rI_mono {B1 B2 B3 C1 C2 C3 : Int} {σ : sS} (h : rI B1 B2 B3 σ) (h1 : B1 ≤ C1) (h2 : B2 ≤ C2) (h3 : B3 ≤ C3) : rI C1 C2 C3 σ := ⟨h.1, by have := h.2; omega⟩
theorem tv_level {f : Nat → Int32} (h0 : 1 ≤ (f 0).toInt) (h1 : 0 ≤ (f 1).toInt) : (f_X1_level f).toInt = (f 1).toInt / (f 0).toInt ∧ (f 1).toInt / (f 0).toInt * (f 0).toInt ≤ (f 1).toInt ∧ 0 ≤ (f 1).toInt / (f 0).toInt := by
  have e1 : (1 : Int32).toInt = 1 := rfl
  have hh := ti_hi (f 1)
  have hq : (f 1).toInt / (f 0).toInt ≤ (f 1).toInt := Int.ediv_le_self _ h1
  have h := tp_share (x := f 1) (y := 1) (z := f 0) (by omega)
  have h2 := tp_val (x := f 1) (y := 1) (z := f 0) h1 (by decide) h0 (by rw [e1, Int.mul_one]; omega)
  have h3 : f_X1_level f = g_X6_share (f 1) 1 (f 0) := h
  rw [h3, h2, e1, Int.mul_one]
  exact ⟨rfl, Int.ediv_mul_le _ (by omega), Int.ediv_nonneg h1 (by omega)⟩
/-- the sea -/
theorem rI_sea {B1 B2 B3 : Int} {σ : sS} (h : rI B1 B2 B3 σ) (d0 : 0 ≤ (σ (1 + 0) 1).toInt) (d1 : (σ (1 + 0) 1).toInt ≤ 100000) (hB1 : B1 ≤ 10000000) (hB2 : B2 ≤ 10000000) (hB3 : B3 ≤ 10000000) : rI (B1 + 202) (B2 + 6060) (B3 + 1616) (f_X2_letSeaIn σ 0) := by
  have hm := rI_mono h (C1 := B1 + 202) (C2 := B2 + 6060) (C3 := B3 + 1616) (by omega) (by omega) (by omega)
  have p := h.1 0 (by omega)
  have b := rI_b h (k := 0) (by omega)
  obtain ⟨a1, a9, f1, f2, f3, f4, f5, f6, f7, f10⟩ := p
  have T := te_tide d0 d1
  have L := tv_level a1 f1
  unfold w1 w2 w3 at b
  have aT : (10 * f_X3_tideAt (σ (1 + 0) 1)).toInt = 10 * (f_X3_tideAt (σ (1 + 0) 1)).toInt := by rw [ti_mul (by rw [ti_10]; omega) (by rw [ti_10]; omega), ti_10]
  have hq : (σ (5 + 8 * 0 + 0) 1).toInt / (σ (5 + 8 * 0 + 0) 0).toInt ≤ (σ (5 + 8 * 0 + 0) 1).toInt := Int.ediv_le_self _ f1
  have aD : (10 * f_X3_tideAt (σ (1 + 0) 1) - f_X1_level (σ (5 + 8 * 0 + 0))).toInt = 10 * (f_X3_tideAt (σ (1 + 0) 1)).toInt - (f_X1_level (σ (5 + 8 * 0 + 0))).toInt := by rw [ti_sub (by rw [aT]; omega) (by rw [aT]; omega), aT]
  unfold f_X2_letSeaIn
  split
  · exact hm
  · split
    · exact hm
    · next c2 =>
      have c3 := mt ti_le.mpr c2
      rw [show (0 : Int32).toInt = 0 from rfl] at c3
      generalize 10 * f_X3_tideAt (σ (1 + 0) 1) - f_X1_level (σ (5 + 8 * 0 + 0)) = d at aD c3 ⊢
      have hd : d.toInt ≤ 90 := by omega
      have mm := in_mul (x := d.toInt) (X := 90) (y := (σ (5 + 8 * 0 + 0) 0).toInt) (Y := 9) (by omega) hd (by omega) a9
      have am : (d * σ (5 + 8 * 0 + 0) 0).toInt = d.toInt * (σ (5 + 8 * 0 + 0) 0).toInt := ti_mul (by omega) (by omega)
      have ax : (d * σ (5 + 8 * 0 + 0) 0 / 4).toInt = d.toInt * (σ (5 + 8 * 0 + 0) 0).toInt / 4 := by rw [ti_div (by omega) (by decide), am]; rfl
      generalize d * σ (5 + 8 * 0 + 0) 0 / 4 = x at ax ⊢
      have hx : 0 ≤ x.toInt ∧ x.toInt ≤ 202 := by omega
      have a30 : (30 * x).toInt = 30 * x.toInt := by rw [ti_mul (by show _ ≤ (30 : Int) * _; omega) (by show (30 : Int) * _ ≤ _; omega)]; rfl
      have a2 : (2 * x).toInt = 2 * x.toInt := by rw [ti_mul (by show _ ≤ (2 : Int) * _; omega) (by show (2 : Int) * _ ≤ _; omega)]; rfl
      have a6 : (6 * x).toInt = 6 * x.toInt := by rw [ti_mul (by show _ ≤ (6 : Int) * _; omega) (by show (6 : Int) * _ ≤ _; omega)]; rfl
      have q1 : (σ (5 + 8 * 0 + 0) 1 + x).toInt = (σ (5 + 8 * 0 + 0) 1).toInt + x.toInt := ti_add (by omega) (by omega)
      have q2 : (σ (5 + 8 * 0 + 0) 2 + 30 * x).toInt = (σ (5 + 8 * 0 + 0) 2).toInt + 30 * x.toInt := by rw [ti_add (by omega) (by omega), a30]
      have q3 : (σ (5 + 8 * 0 + 0) 3 + 2 * x).toInt = (σ (5 + 8 * 0 + 0) 3).toInt + 2 * x.toInt := by rw [ti_add (by omega) (by omega), a2]
      have q4 : (σ (5 + 8 * 0 + 0) 4 + 6 * x).toInt = (σ (5 + 8 * 0 + 0) 4).toInt + 6 * x.toInt := by rw [ti_add (by omega) (by omega), a6]
      refine rI_out (σ := va_up σ (5 + 8 * 0 + 0) (f_X1_takeIn (σ (5 + 8 * 0 + 0)) x (30 * x) (2 * x) (6 * x))) ?_ (fun j hj => ?_)
      · refine ⟨fun k hk => ?_, ?_⟩
        · by_cases e : k = 0
          · subst e
            rw [va_up_self]
            exact ⟨a1, a9, by show 0 ≤ (σ (5 + 8 * 0 + 0) 1 + x).toInt; omega, by show 0 ≤ (σ (5 + 8 * 0 + 0) 2 + 30 * x).toInt; omega, by show 0 ≤ (σ (5 + 8 * 0 + 0) 3 + 2 * x).toInt; omega, by show 0 ≤ (σ (5 + 8 * 0 + 0) 4 + 6 * x).toInt; omega, f5, f6, f7, f10⟩
          · rw [va_up_ne _ _ (by omega)]
            exact h.1 k hk
        · rw [S8_up (by omega), S8_up (by omega), S8_up (by omega)]
          have z1 : w1 (f_X1_takeIn (σ (5 + 8 * 0 + 0)) x (30 * x) (2 * x) (6 * x)) = (σ (5 + 8 * 0 + 0) 1 + x).toInt + (σ (5 + 8 * 0 + 0) 5).toInt := rfl
          have z2 : w2 (f_X1_takeIn (σ (5 + 8 * 0 + 0)) x (30 * x) (2 * x) (6 * x)) = (σ (5 + 8 * 0 + 0) 2 + 30 * x).toInt + (σ (5 + 8 * 0 + 0) 6).toInt := rfl
          have z3 : w3 (f_X1_takeIn (σ (5 + 8 * 0 + 0)) x (30 * x) (2 * x) (6 * x)) = (σ (5 + 8 * 0 + 0) 3 + 2 * x).toInt + (σ (5 + 8 * 0 + 0) 4 + 6 * x).toInt + (σ (5 + 8 * 0 + 0) 7).toInt := rfl
          have y1 : w1 (σ (5 + 8 * 0 + 0)) = (σ (5 + 8 * 0 + 0) 1).toInt + (σ (5 + 8 * 0 + 0) 5).toInt := rfl
          have y2 : w2 (σ (5 + 8 * 0 + 0)) = (σ (5 + 8 * 0 + 0) 2).toInt + (σ (5 + 8 * 0 + 0) 6).toInt := rfl
          have y3 : w3 (σ (5 + 8 * 0 + 0)) = (σ (5 + 8 * 0 + 0) 3).toInt + (σ (5 + 8 * 0 + 0) 4).toInt + (σ (5 + 8 * 0 + 0) 7).toInt := rfl
          have hS := h.2
          rw [z1, z2, z3, y1, y2, y3]
          omega
      · unfold f_X2_sea
        rw [va_up_ne _ _ (by omega)]
/-- brine from a pond to the next: nothing is lost -/
theorem rI_flowStep {B1 B2 B3 : Int} {σ : sS} {n : Nat} (h : rI B1 B2 B3 σ) (hn : n < 7) (hB1 : B1 ≤ 20000000) (hB2 : B2 ≤ 20000000) (hB3 : B3 ≤ 20000000) : rI B1 B2 B3 (f_X2_flowStep σ 0 n) := by
  have pn := h.1 n (by omega)
  have pm := h.1 (n + 1) (by omega)
  have b1 := S8_ge2 (w := w1) (fun j hj => (pI_w (h.1 j hj)).1) hn
  have b2 := S8_ge2 (w := w2) (fun j hj => (pI_w (h.1 j hj)).2.1) hn
  have b3 := S8_ge2 (w := w3) (fun j hj => (pI_w (h.1 j hj)).2.2) hn
  have hS := h.2
  obtain ⟨a1, a9, f1, f2, f3, f4, f5, f6, f7, f10⟩ := pn
  obtain ⟨c1, c9, g1, g2, g3, g4, g5, g6, g7, g10⟩ := pm
  have Ln := tv_level a1 f1
  have Lm := tv_level c1 g1
  have qn : (σ (5 + 8 * 0 + n) 1).toInt / (σ (5 + 8 * 0 + n) 0).toInt ≤ (σ (5 + 8 * 0 + n) 1).toInt := Int.ediv_le_self _ f1
  have qm : (σ (5 + 8 * 0 + (n + 1)) 1).toInt / (σ (5 + 8 * 0 + (n + 1)) 0).toInt ≤ (σ (5 + 8 * 0 + (n + 1)) 1).toInt := Int.ediv_le_self _ g1
  have y1 : w1 (σ (5 + 8 * 0 + n)) = (σ (5 + 8 * 0 + n) 1).toInt + (σ (5 + 8 * 0 + n) 5).toInt := rfl
  have y2 : w2 (σ (5 + 8 * 0 + n)) = (σ (5 + 8 * 0 + n) 2).toInt + (σ (5 + 8 * 0 + n) 6).toInt := rfl
  have y3 : w3 (σ (5 + 8 * 0 + n)) = (σ (5 + 8 * 0 + n) 3).toInt + (σ (5 + 8 * 0 + n) 4).toInt + (σ (5 + 8 * 0 + n) 7).toInt := rfl
  have u1 : w1 (σ (5 + 8 * 0 + (n + 1))) = (σ (5 + 8 * 0 + (n + 1)) 1).toInt + (σ (5 + 8 * 0 + (n + 1)) 5).toInt := rfl
  have u2 : w2 (σ (5 + 8 * 0 + (n + 1))) = (σ (5 + 8 * 0 + (n + 1)) 2).toInt + (σ (5 + 8 * 0 + (n + 1)) 6).toInt := rfl
  have u3 : w3 (σ (5 + 8 * 0 + (n + 1))) = (σ (5 + 8 * 0 + (n + 1)) 3).toInt + (σ (5 + 8 * 0 + (n + 1)) 4).toInt + (σ (5 + 8 * 0 + (n + 1)) 7).toInt := rfl
  unfold f_X2_flowStep
  split
  · exact h
  · split
    · exact h
    · next k2 =>
      have k3 := mt ti_le.mpr k2
      rw [show (0 : Int32).toInt = 0 from rfl] at k3
      have aD : (f_X1_level (σ (5 + 8 * 0 + n)) - f_X1_level (σ (5 + 8 * 0 + (n + 1)))).toInt = (σ (5 + 8 * 0 + n) 1).toInt / (σ (5 + 8 * 0 + n) 0).toInt - (σ (5 + 8 * 0 + (n + 1)) 1).toInt / (σ (5 + 8 * 0 + (n + 1)) 0).toInt := by rw [ti_sub (by omega) (by omega), Ln.1, Lm.1]
      generalize f_X1_level (σ (5 + 8 * 0 + n)) - f_X1_level (σ (5 + 8 * 0 + (n + 1))) = d at aD k3 ⊢
      have em : (f_min (σ (5 + 8 * 0 + n) 0) (σ (5 + 8 * 0 + (n + 1)) 0)).toInt = min (σ (5 + 8 * 0 + n) 0).toInt (σ (5 + 8 * 0 + (n + 1)) 0).toInt := ti_min _ _
      generalize f_min (σ (5 + 8 * 0 + n) 0) (σ (5 + 8 * 0 + (n + 1)) 0) = mA at em ⊢
      have hm1 : 1 ≤ mA.toInt := by omega
      have hm2 : mA.toInt ≤ (σ (5 + 8 * 0 + n) 0).toInt := by omega
      have hmul : d.toInt * mA.toInt ≤ (σ (5 + 8 * 0 + n) 1).toInt / (σ (5 + 8 * 0 + n) 0).toInt * (σ (5 + 8 * 0 + n) 0).toInt := Int.mul_le_mul (by omega) hm2 (by omega) (by omega)
      have hpos : 0 ≤ d.toInt * mA.toInt := Int.mul_nonneg (by omega) (by omega)
      have hpos1 : 1 ≤ d.toInt * mA.toInt := by
        have := Int.mul_le_mul (a := 1) (b := 1) (c := d.toInt) (d := mA.toInt) (by omega) hm1 (by omega) (by omega)
        omega
      have e2 : (2 : Int32).toInt = 2 := rfl
      have ep : f_X3_portion d.toInt64 mA.toInt64 2 = g_X6_share d mA 2 := tp_share (x := d) (y := mA) (z := 2) (by decide)
      have ev : (g_X6_share d mA 2).toInt = d.toInt * mA.toInt / 2 := by
        have q := tp_val (x := d) (y := mA) (z := 2) (by omega) (by omega) (by decide) (by rw [e2]; omega)
        rw [e2] at q
        exact q
      rw [ep]
      generalize g_X6_share d mA 2 = x at ev ⊢
      have hx0 : 0 ≤ x.toInt := by omega
      have hx2 : 2 * x.toInt ≤ (σ (5 + 8 * 0 + n) 1).toInt := by omega
      have hb1 : 1 ≤ (σ (5 + 8 * 0 + n) 1).toInt := by omega
      have s2 := ts_half f2 hx0 hb1 hx2
      have s3 := ts_half f3 hx0 hb1 hx2
      have s4 := ts_half f4 hx0 hb1 hx2
      have e2' := tp_share (x := σ (5 + 8 * 0 + n) 2) (y := x) (z := σ (5 + 8 * 0 + n) 1) f1
      have e3' := tp_share (x := σ (5 + 8 * 0 + n) 3) (y := x) (z := σ (5 + 8 * 0 + n) 1) f1
      have e4' := tp_share (x := σ (5 + 8 * 0 + n) 4) (y := x) (z := σ (5 + 8 * 0 + n) 1) f1
      unfold f_X1_giveBrine
      rw [e2', e3', e4']
      generalize g_X6_share (σ (5 + 8 * 0 + n) 2) x (σ (5 + 8 * 0 + n) 1) = p2 at s2 ⊢
      generalize g_X6_share (σ (5 + 8 * 0 + n) 3) x (σ (5 + 8 * 0 + n) 1) = p3 at s3 ⊢
      generalize g_X6_share (σ (5 + 8 * 0 + n) 4) x (σ (5 + 8 * 0 + n) 1) = p4 at s4 ⊢
      rw [va_up_ne σ _ (show 5 + 8 * 0 + (n + 1) ≠ 5 + 8 * 0 + n by omega)]
      have ng : ∀ y z : Int32, 0 ≤ y.toInt → y.toInt ≤ z.toInt → (z + -y).toInt = z.toInt - y.toInt := fun y z h1 h2 => by
        have := ti_hi z
        rw [show z + -y = z - y from (Int32.sub_eq_add_neg _ _).symm, ti_sub (by omega) (by omega)]
      have m1 := ng x (σ (5 + 8 * 0 + n) 1) (by omega) (by omega)
      have m2 := ng p2 (σ (5 + 8 * 0 + n) 2) (by omega) (by omega)
      have m3 := ng p3 (σ (5 + 8 * 0 + n) 3) (by omega) (by omega)
      have m4 := ng p4 (σ (5 + 8 * 0 + n) 4) (by omega) (by omega)
      have r1 : (σ (5 + 8 * 0 + (n + 1)) 1 + x).toInt = (σ (5 + 8 * 0 + (n + 1)) 1).toInt + x.toInt := ti_add (by omega) (by omega)
      have r2 : (σ (5 + 8 * 0 + (n + 1)) 2 + p2).toInt = (σ (5 + 8 * 0 + (n + 1)) 2).toInt + p2.toInt := ti_add (by omega) (by omega)
      have r3 : (σ (5 + 8 * 0 + (n + 1)) 3 + p3).toInt = (σ (5 + 8 * 0 + (n + 1)) 3).toInt + p3.toInt := ti_add (by omega) (by omega)
      have r4 : (σ (5 + 8 * 0 + (n + 1)) 4 + p4).toInt = (σ (5 + 8 * 0 + (n + 1)) 4).toInt + p4.toInt := ti_add (by omega) (by omega)
      refine ⟨fun k hk => ?_, ?_⟩
      · by_cases ej : k = n + 1
        · subst ej
          rw [va_up_self]
          exact ⟨c1, c9, by show 0 ≤ (σ (5 + 8 * 0 + (n + 1)) 1 + x).toInt; omega, by show 0 ≤ (σ (5 + 8 * 0 + (n + 1)) 2 + p2).toInt; omega, by show 0 ≤ (σ (5 + 8 * 0 + (n + 1)) 3 + p3).toInt; omega, by show 0 ≤ (σ (5 + 8 * 0 + (n + 1)) 4 + p4).toInt; omega, g5, g6, g7, g10⟩
        · rw [va_up_ne _ _ (show 5 + 8 * 0 + k ≠ 5 + 8 * 0 + (n + 1) by omega)]
          by_cases ei : k = n
          · subst ei
            rw [va_up_self]
            exact ⟨a1, a9, by show 0 ≤ (σ (5 + 8 * 0 + k) 1 + -x).toInt; omega, by show 0 ≤ (σ (5 + 8 * 0 + k) 2 + -p2).toInt; omega, by show 0 ≤ (σ (5 + 8 * 0 + k) 3 + -p3).toInt; omega, by show 0 ≤ (σ (5 + 8 * 0 + k) 4 + -p4).toInt; omega, f5, f6, f7, f10⟩
          · rw [va_up_ne _ _ (by omega)]
            exact h.1 k hk
      · rw [S8_up (k := n + 1) (by omega), S8_up (k := n + 1) (by omega), S8_up (k := n + 1) (by omega), S8_up (k := n) (by omega), S8_up (k := n) (by omega), S8_up (k := n) (by omega), va_up_ne σ _ (show 5 + 8 * 0 + (n + 1) ≠ 5 + 8 * 0 + n by omega)]
        have z1 : w1 (f_X1_takeIn (σ (5 + 8 * 0 + (n + 1))) x p2 p3 p4) = (σ (5 + 8 * 0 + (n + 1)) 1 + x).toInt + (σ (5 + 8 * 0 + (n + 1)) 5).toInt := rfl
        have z2 : w2 (f_X1_takeIn (σ (5 + 8 * 0 + (n + 1))) x p2 p3 p4) = (σ (5 + 8 * 0 + (n + 1)) 2 + p2).toInt + (σ (5 + 8 * 0 + (n + 1)) 6).toInt := rfl
        have z3 : w3 (f_X1_takeIn (σ (5 + 8 * 0 + (n + 1))) x p2 p3 p4) = (σ (5 + 8 * 0 + (n + 1)) 3 + p3).toInt + (σ (5 + 8 * 0 + (n + 1)) 4 + p4).toInt + (σ (5 + 8 * 0 + (n + 1)) 7).toInt := rfl
        have v1 : w1 (f_X1_takeIn (σ (5 + 8 * 0 + n)) (-x) (-p2) (-p3) (-p4)) = (σ (5 + 8 * 0 + n) 1 + -x).toInt + (σ (5 + 8 * 0 + n) 5).toInt := rfl
        have v2 : w2 (f_X1_takeIn (σ (5 + 8 * 0 + n)) (-x) (-p2) (-p3) (-p4)) = (σ (5 + 8 * 0 + n) 2 + -p2).toInt + (σ (5 + 8 * 0 + n) 6).toInt := rfl
        have v3 : w3 (f_X1_takeIn (σ (5 + 8 * 0 + n)) (-x) (-p2) (-p3) (-p4)) = (σ (5 + 8 * 0 + n) 3 + -p3).toInt + (σ (5 + 8 * 0 + n) 4 + -p4).toInt + (σ (5 + 8 * 0 + n) 7).toInt := rfl
        rw [z1, z2, z3, v1, v2, v3]
        omega
theorem rI_flow {B1 B2 B3 : Int} (hB1 : B1 ≤ 20000000) (hB2 : B2 ≤ 20000000) (hB3 : B3 ≤ 20000000) : ∀ (n : Nat) (σ : sS), n ≤ 7 → rI B1 B2 B3 σ → rI B1 B2 B3 (f_X2_flow 0 n σ)
  | 0, _, _, h => h
  | n + 1, σ, hn, h => rI_flow hB1 hB2 hB3 n _ (by omega) (rI_flowStep h (by omega) hB1 hB2 hB3)
/-- what a pond's minerals are at most: what its brine holds -/
def pH (f : Nat → Int32) : Prop := (f 2).toInt ≤ 300 * (f 1).toInt ∧ (f 3).toInt ≤ 8 * (f 1).toInt ∧ (f 4).toInt ≤ 200 * (f 1).toInt
/-- what falls: the rest -/
theorem ta_exact {f : Nat → Int32} {x : Int32} {y : Int64} (hy : 0 ≤ y.toInt) (hy2 : y.toInt ≤ 300) (l1 : 0 ≤ (f 1).toInt) (hx : 0 ≤ x.toInt) : (g_above f x y).toInt = max 0 (x.toInt - y.toInt * (f 1).toInt) := by
  have h1 := ti_hi (f 1)
  have h2 := ti_hi x
  have hm := in_mul hy hy2 l1 h1
  have e : (y * (f 1).toInt64).toInt = y.toInt * (f 1).toInt := by rw [tl_mul (by rw [tl_of]; omega) (by rw [tl_of]; omega), tl_of]
  have e2 : (x.toInt64 - y * (f 1).toInt64).toInt = x.toInt - y.toInt * (f 1).toInt := by
    rw [tl_sub (by rw [e, tl_of]; omega) (by rw [e, tl_of]; omega), e, tl_of]
  unfold g_above f_lmax
  by_cases hc : x.toInt64 - y * (f 1).toInt64 < 0
  · rw [if_pos hc]
    have h3 := tl_lt.mp hc
    rw [e2, show (0 : Int64).toInt = 0 from rfl] at h3
    rw [show (0 : Int64).toInt32.toInt = 0 from rfl]
    omega
  · rw [if_neg hc]
    have h3 := mt tl_lt.mpr hc
    rw [e2, show (0 : Int64).toInt = 0 from rfl] at h3
    rw [tl_32 (by rw [e2]; omega) (by rw [e2]; omega), e2]
    omega
theorem pI_drop {f : Nat → Int32} (h : pI f) (b2 : w2 f ≤ 100000000) (b3 : w3 f ≤ 100000000) : pI (f_X1_dropMinerals f) ∧ pH (f_X1_dropMinerals f) ∧ w1 (f_X1_dropMinerals f) = w1 f ∧ w2 (f_X1_dropMinerals f) = w2 f ∧ w3 (f_X1_dropMinerals f) = w3 f := by
  obtain ⟨a1, a9, f1, f2, f3, f4, f5, f6, f7, f10⟩ := h
  have v2 := ta_exact (f := f) (x := f 2) (y := (300 : Int32).toInt64) (by decide) (by decide) f1 f2
  have v3 := ta_exact (f := f) (x := f 3) (y := (8 : Int32).toInt64) (by decide) (by decide) f1 f3
  have v4 := ta_exact (f := f) (x := f 4) (y := (200 : Int32).toInt64) (by decide) (by decide) f1 f4
  rw [← ta_eq, show ((300 : Int32).toInt64).toInt = 300 from by decide] at v2
  rw [← ta_eq, show ((8 : Int32).toInt64).toInt = 8 from by decide] at v3
  rw [← ta_eq, show ((200 : Int32).toInt64).toInt = 200 from by decide] at v4
  have b2 : (f 2).toInt + (f 6).toInt ≤ 100000000 := b2
  have b3 : (f 3).toInt + (f 4).toInt + (f 7).toInt ≤ 100000000 := b3
  unfold f_X1_dropMinerals
  generalize f_X1_above f (f 2) 300 = p2 at v2 ⊢
  generalize f_X1_above f (f 3) 8 = p3 at v3 ⊢
  generalize f_X1_above f (f 4) 200 = p4 at v4 ⊢
  have m2 : (f 2 - p2).toInt = (f 2).toInt - p2.toInt := ti_sub (by omega) (by omega)
  have m3 : (f 3 - p3).toInt = (f 3).toInt - p3.toInt := ti_sub (by omega) (by omega)
  have m4 : (f 4 - p4).toInt = (f 4).toInt - p4.toInt := ti_sub (by omega) (by omega)
  have m6 : (f 6 + p2).toInt = (f 6).toInt + p2.toInt := ti_add (by omega) (by omega)
  have m34 : (p3 + p4).toInt = p3.toInt + p4.toInt := ti_add (by omega) (by omega)
  have m7 : (f 7 + (p3 + p4)).toInt = (f 7).toInt + (p3.toInt + p4.toInt) := by rw [ti_add (by omega) (by omega), m34]
  refine ⟨⟨a1, a9, f1, ?_, ?_, ?_, f5, ?_, ?_, f10⟩, ⟨?_, ?_, ?_⟩, rfl, ?_, ?_⟩
  · show 0 ≤ (f 2 - p2).toInt; omega
  · show 0 ≤ (f 3 - p3).toInt; omega
  · show 0 ≤ (f 4 - p4).toInt; omega
  · show 0 ≤ (f 6 + p2).toInt; omega
  · show 0 ≤ (f 7 + (p3 + p4)).toInt; omega
  · show (f 2 - p2).toInt ≤ 300 * (f 1).toInt; omega
  · show (f 3 - p3).toInt ≤ 8 * (f 1).toInt; omega
  · show (f 4 - p4).toInt ≤ 200 * (f 1).toInt; omega
  · show (f 2 - p2).toInt + (f 6 + p2).toInt = (f 2).toInt + (f 6).toInt; omega
  · show (f 3 - p3).toInt + (f 4 - p4).toInt + (f 7 + (p3 + p4)).toInt = (f 3).toInt + (f 4).toInt + (f 7).toInt; omega
theorem pI_mix {f : Nat → Int32} (h : pI f) (b1 : w1 f ≤ 100000000) (b2 : w2 f ≤ 100000000) : pI (f_X1_mixFresh f) ∧ w1 (f_X1_mixFresh f) = w1 f ∧ w2 (f_X1_mixFresh f) = w2 f ∧ w3 (f_X1_mixFresh f) = w3 f := by
  obtain ⟨a1, a9, f1, f2, f3, f4, f5, f6, f7, f10⟩ := h
  have b1 : (f 1).toInt + (f 5).toInt ≤ 100000000 := b1
  have b2 : (f 2).toInt + (f 6).toInt ≤ 100000000 := b2
  have e1 : (1 : Int32).toInt = 1 := rfl
  have e4 : (4 : Int32).toInt = 4 := rfl
  have q1 : (f 5 + 1).toInt = (f 5).toInt + 1 := by rw [ti_add (by omega) (by omega), e1]
  have q2 : (f_X3_roundedUp (f 5) 2).toInt = ((f 5).toInt + 1) / 2 := by rw [tr_2, ti_half (by omega), q1]
  have q3 : (4 * f_X3_roundedUp (f 5) 2).toInt = 4 * (((f 5).toInt + 1) / 2) := by rw [ti_mul (by rw [e4, q2]; omega) (by rw [e4, q2]; omega), e4, q2]
  have q4 : (f_min (f 6) (4 * f_X3_roundedUp (f 5) 2)).toInt = min (f 6).toInt (4 * (((f 5).toInt + 1) / 2)) := by rw [ti_min, q3]
  unfold f_X1_mixFresh
  generalize f_min (f 6) (4 * f_X3_roundedUp (f 5) 2) = s0 at q4 ⊢
  generalize f_X3_roundedUp (f 5) 2 = m at q2 ⊢
  have m5 : (f 5 - m).toInt = (f 5).toInt - m.toInt := ti_sub (by omega) (by omega)
  have m1 : (f 1 + m).toInt = (f 1).toInt + m.toInt := ti_add (by omega) (by omega)
  have m6 : (f 6 - s0).toInt = (f 6).toInt - s0.toInt := ti_sub (by omega) (by omega)
  have m2 : (f 2 + s0).toInt = (f 2).toInt + s0.toInt := ti_add (by omega) (by omega)
  refine ⟨⟨a1, a9, ?_, ?_, f3, f4, ?_, ?_, f7, f10⟩, ?_, ?_, rfl⟩
  · show 0 ≤ (f 1 + m).toInt; omega
  · show 0 ≤ (f 2 + s0).toInt; omega
  · show 0 ≤ (f 5 - m).toInt; omega
  · show 0 ≤ (f 6 - s0).toInt; omega
  · show (f 1 + m).toInt + (f 5 - m).toInt = (f 1).toInt + (f 5).toInt; omega
  · show (f 2 + s0).toInt + (f 6 - s0).toInt = (f 2).toInt + (f 6).toInt; omega
theorem pI_dry {f : Nat → Int32} {x : Int32} (h : pI f) (b1 : w1 f ≤ 100000000) (s0 : 0 ≤ x.toInt) (s1 : x.toInt ≤ 18) : pI (f_X1_dryOut f x) ∧ w1 (f_X1_dryOut f x) ≤ w1 f ∧ w2 (f_X1_dryOut f x) = w2 f ∧ w3 (f_X1_dryOut f x) = w3 f := by
  obtain ⟨a1, a9, f1, f2, f3, f4, f5, f6, f7, f10⟩ := h
  have b1 : (f 1).toInt + (f 5).toInt ≤ 100000000 := b1
  have mm := in_mul (x := (f 0).toInt) (X := 9) (y := x.toInt) (Y := 18) (by omega) a9 s0 s1
  have q0 : (f 0 * x).toInt = (f 0).toInt * x.toInt := ti_mul (by omega) (by omega)
  have q1 : (f 0 * x / 10).toInt = (f 0).toInt * x.toInt / 10 := by rw [ti_div (by omega) (by decide), q0, ti_10]
  have q2 : (f_min (f 5) (f 0 * x / 10)).toInt = min (f 5).toInt ((f 0).toInt * x.toInt / 10) := by rw [ti_min, q1]
  have hs := te_str (f := upd f 5 (f 5 - f_min (f 5) (f 0 * x / 10))) (g := upd f 5 (f 5 - f_min (f 5) (f 0 * x / 10))) rfl rfl rfl f1 f2 f4
  unfold f_X1_dryOut
  rw [tr_up]
  generalize f_X1_strength (upd f 5 (f 5 - f_min (f 5) (f 0 * x / 10))) = st at hs ⊢
  generalize f_min (f 5) (f 0 * x / 10) = m at q2 ⊢
  generalize f 0 * x = fx at q0 ⊢
  have e10 : (10 * m).toInt = 10 * m.toInt := by rw [ti_mul (by rw [ti_10]; omega) (by rw [ti_10]; omega), ti_10]
  have e1 : (fx - 10 * m).toInt = fx.toInt - 10 * m.toInt := by rw [ti_sub (by omega) (by omega), e10]
  have e2 : ((100 : Int32) - st).toInt = 100 - st.toInt := by rw [ti_sub (by show -2147483648 ≤ (100 : Int) - _; omega) (by show (100 : Int) - _ ≤ _; omega)]; rfl
  have mm2 := in_mul (x := fx.toInt - 10 * m.toInt) (X := 162) (y := 100 - st.toInt) (Y := 100) (by omega) (by omega) (by omega) (by omega)
  have e3 : ((fx - 10 * m) * (100 - st)).toInt = (fx.toInt - 10 * m.toInt) * (100 - st.toInt) := by rw [ti_mul (by rw [e1, e2]; omega) (by rw [e1, e2]; omega), e1, e2]
  have e4 : ((fx - 10 * m) * (100 - st) + 999).toInt = (fx.toInt - 10 * m.toInt) * (100 - st.toInt) + 999 := by
    rw [ti_add (by rw [e3, show (999 : Int32).toInt = 999 from rfl]; omega) (by rw [e3, show (999 : Int32).toInt = 999 from rfl]; omega), e3]
    rfl
  have e5 : 0 ≤ (((fx - 10 * m) * (100 - st) + 999) / 1000).toInt := by
    rw [ti_div (by omega) (by decide), e4]
    exact Int.ediv_nonneg (by omega) (by decide)
  generalize ((fx - 10 * m) * (100 - st) + 999) / 1000 = w at e5 ⊢
  have g := tw_go f1 e5
  have m5 : (f 5 - m).toInt = (f 5).toInt - m.toInt := ti_sub (by omega) (by omega)
  refine ⟨⟨a1, a9, g.1, f2, f3, f4, ?_, f6, f7, f10⟩, ?_, rfl, rfl⟩
  · show 0 ≤ (f 5 - m).toInt; omega
  · show (f 1 - f_min (f 1 / 2) w).toInt + (f 5 - m).toInt ≤ (f 1).toInt + (f 5).toInt; omega
theorem pI_rain {f : Nat → Int32} {z : Int32} (h : pI f) (b1 : w1 f ≤ 100000000) (h0 : 0 ≤ z.toInt) (h1 : z.toInt ≤ 40) : pI (f_X1_rainFalls (upd f 11 0) z) ∧ w1 (f_X1_rainFalls (upd f 11 0) z) ≤ w1 f + 36 ∧ w2 (f_X1_rainFalls (upd f 11 0) z) = w2 f ∧ w3 (f_X1_rainFalls (upd f 11 0) z) = w3 f := by
  obtain ⟨a1, a9, f1, f2, f3, f4, f5, f6, f7, f10⟩ := h
  have b1 : (f 1).toInt + (f 5).toInt ≤ 100000000 := b1
  have mm := in_mul (x := z.toInt) (X := 40) (y := (f 0).toInt) (Y := 9) h0 h1 (by omega) a9
  have q0 : (z * f 0).toInt = z.toInt * (f 0).toInt := ti_mul (by omega) (by omega)
  have q1 : (z * f 0 / 10).toInt = z.toInt * (f 0).toInt / 10 := by rw [ti_div (by omega) (by decide), q0, ti_10]
  have e : f_X1_rainFalls (upd f 11 0) z = upd (upd f 11 0) 5 (f 5 + z * f 0 / 10) := by
    unfold f_X1_rainFalls
    rw [if_pos (show upd f 11 0 10 = 0 from f10)]
    rfl
  rw [e]
  generalize z * f 0 / 10 = v at q1 ⊢
  have m5 : (f 5 + v).toInt = (f 5).toInt + v.toInt := ti_add (by omega) (by omega)
  refine ⟨⟨a1, a9, f1, f2, f3, f4, ?_, f6, f7, f10⟩, ?_, rfl, rfl⟩
  · show 0 ≤ (f 5 + v).toInt; omega
  · show (f 1).toInt + (f 5 + v).toInt ≤ (f 1).toInt + (f 5).toInt + 36; omega
theorem pI_day {f : Nat → Int32} {s z : Int32} (h : pI f) (b1 : w1 f ≤ 50000000) (b2 : w2 f ≤ 50000000) (b3 : w3 f ≤ 50000000) (s0 : 0 ≤ s.toInt) (s1 : s.toInt ≤ 18) (h0 : 0 ≤ z.toInt) (h1 : z.toInt ≤ 40) : pI (f_pF s z f) ∧ pH (f_pF s z f) ∧ w1 (f_pF s z f) ≤ w1 f + 36 ∧ w2 (f_pF s z f) = w2 f ∧ w3 (f_pF s z f) = w3 f := by
  have A := pI_rain h (by omega) h0 h1
  have B := pI_dry (x := s) A.1 (by omega) s0 s1
  have C := pI_mix B.1 (by omega) (by omega)
  have E := pI_drop C.1 (by omega) (by omega)
  unfold f_pF
  exact ⟨E.1, E.2.1, by omega, by omega, by omega⟩
/-- a day of the row: its sums grow by what comes from the sea and the sky, no pond holds more than it can -/
theorem rI_day {B1 B2 B3 : Int} {σ : sS} {x y z : Int32} (h : rI B1 B2 B3 σ) (d0 : 0 ≤ (σ (1 + 0) 1).toInt) (d1 : (σ (1 + 0) 1).toInt < 100000) (hB1 : B1 ≤ 10000000) (hB2 : B2 ≤ 10000000) (hB3 : B3 ≤ 10000000) (s0 : 0 ≤ (x + y).toInt) (s1 : (x + y).toInt ≤ 18) (h0 : 0 ≤ z.toInt) (h1 : z.toInt ≤ 40) : rI (B1 + 490) (B2 + 6060) (B3 + 1616) (f_X2_letDayGoBy σ 0 x y z) ∧ (∀ k, k < 8 → pH (f_X2_letDayGoBy σ 0 x y z (5 + 8 * 0 + k))) ∧ (f_X2_letDayGoBy σ 0 x y z (1 + 0) 1).toInt = (σ (1 + 0) 1).toInt + 1 := by
  have e1 : (1 : Int32).toInt = 1 := rfl
  have ad : (σ (1 + 0) 1 + 1).toInt = (σ (1 + 0) 1).toInt + 1 := by rw [ti_add (by rw [e1]; omega) (by rw [e1]; omega), e1]
  have es : f_X2_start σ 0 x y (1 + 0) 1 = σ (1 + 0) 1 + 1 := by
    unfold f_X2_start
    simp only [va_up_self]
    rfl
  have A0 : rI B1 B2 B3 (f_X2_start σ 0 x y) := rI_out h (fun j hj => k_start (by omega))
  have A1 := rI_sea A0 (by rw [es]; omega) (by rw [es]; omega) hB1 hB2 hB3
  have A2 : rI (B1 + 202) (B2 + 6060) (B3 + 1616) (f_flown σ 0 x y) := rI_flow (by omega) (by omega) (by omega) 7 _ (Nat.le_refl _) A1
  have key : ∀ k, k < 8 → pI (f_X2_letDayGoBy σ 0 x y z (5 + 8 * 0 + k)) ∧ pH (f_X2_letDayGoBy σ 0 x y z (5 + 8 * 0 + k)) ∧ w1 (f_X2_letDayGoBy σ 0 x y z (5 + 8 * 0 + k)) ≤ w1 (f_flown σ 0 x y (5 + 8 * 0 + k)) + 36 ∧ w2 (f_X2_letDayGoBy σ 0 x y z (5 + 8 * 0 + k)) = w2 (f_flown σ 0 x y (5 + 8 * 0 + k)) ∧ w3 (f_X2_letDayGoBy σ 0 x y z (5 + 8 * 0 + k)) = w3 (f_flown σ 0 x y (5 + 8 * 0 + k)) := fun k hk => by
    rw [dy_at hk]
    have b := rI_b A2 hk
    exact pI_day (A2.1 k hk) (by omega) (by omega) (by omega) s0 s1 h0 h1
  refine ⟨⟨fun k hk => (key k hk).1, ?_⟩, fun k hk => (key k hk).2.1, ?_⟩
  · have g0 := key 0 (by omega)
    have g1 := key 1 (by omega)
    have g2 := key 2 (by omega)
    have g3 := key 3 (by omega)
    have g4 := key 4 (by omega)
    have g5 := key 5 (by omega)
    have g6 := key 6 (by omega)
    have g7 := key 7 (by omega)
    have hS := A2.2
    unfold S8 at hS ⊢
    omega
  · rw [dy_day, ad]
theorem rI_days {x y z : Int32} (s0 : 0 ≤ (x + y).toInt) (s1 : (x + y).toInt ≤ 18) (h0 : 0 ≤ z.toInt) (h1 : z.toInt ≤ 40) : ∀ (m : Nat) (B1 B2 B3 : Int) (σ : sS), rI B1 B2 B3 σ → 0 ≤ (σ (1 + 0) 1).toInt → (σ (1 + 0) 1).toInt + m < 100000 → B1 + 490 * m ≤ 9000000 → B2 + 6060 * m ≤ 9000000 → B3 + 1616 * m ≤ 9000000 → (m ≠ 0 ∨ ∀ k, k < 8 → pH (σ (5 + 8 * 0 + k))) → rI (B1 + 490 * m) (B2 + 6060 * m) (B3 + 1616 * m) (f_X3_days 0 x y z m σ) ∧ (∀ k, k < 8 → pH (f_X3_days 0 x y z m σ (5 + 8 * 0 + k))) ∧ (f_X3_days 0 x y z m σ (1 + 0) 1).toInt = (σ (1 + 0) 1).toInt + m
  | 0, B1, B2, B3, σ, h, _, _, _, _, _, hp => ⟨rI_mono h (by omega) (by omega) (by omega), hp.resolve_left (fun q => q rfl), by show (σ (1 + 0) 1).toInt = _; omega⟩
  | m + 1, B1, B2, B3, σ, h, d0, d1, c1, c2, c3, _ => by
    have A := rI_day (x := x) (y := y) (z := z) h d0 (by omega) (by omega) (by omega) (by omega) s0 s1 h0 h1
    have B := rI_days s0 s1 h0 h1 m (B1 + 490) (B2 + 6060) (B3 + 1616) (f_X2_letDayGoBy σ 0 x y z) A.1 (by omega) (by omega) (by omega) (by omega) (by omega) (Or.inr A.2.1)
    refine ⟨rI_mono B.1 (by omega) (by omega) (by omega), B.2.1, ?_⟩
    have := B.2.2
    have := A.2.2
    show (f_X3_days 0 x y z m (f_X2_letDayGoBy σ 0 x y z) (1 + 0) 1).toInt = _
    omega
/-! The object: what is owed, what is kept, in sum. -/
/-- booleans stay booleans -/
abbrev bZ (f : Nat → Int32) : Prop := (f 9 = 0 ∨ f 9 = 1) ∧ (f 10 = 0 ∨ f 10 = 1) ∧ (f 11 = 0 ∨ f 11 = 1)
theorem bZ_of {σ : sS} : sZ σ ↔ ∀ k, k < 8 → bZ (σ (5 + 8 * 0 + k)) := by
  constructor
  · intro h k hk
    exact ⟨h k hk 9 (by decide) (by decide), h k hk 10 (by decide) (by decide), h k hk 11 (by decide) (by decide)⟩
  · intro h k hk q h1 h2
    have b := h k hk
    rcases (show q = 9 ∨ q = 10 ∨ q = 11 by omega) with rfl | rfl | rfl
    · exact b.1
    · exact b.2.1
    · exact b.2.2
theorem bZ_pF {f : Nat → Int32} {s z : Int32} (h : bZ f) : bZ (f_pF s z f) := by
  have hr : bZ (f_X1_rainFalls (upd f 11 0) z) := by
    unfold f_X1_rainFalls
    split
    · exact ⟨h.1, h.2.1, Or.inl rfl⟩
    · exact ⟨h.1, h.2.1, Or.inl rfl⟩
  exact ⟨hr.1, hr.2.1, hr.2.2⟩
theorem sZ_pond {σ : sS} {k : Nat} {g : Nat → Int32} (h : sZ σ) (hk : k < 8) (hg : bZ g) : sZ (va_up σ (5 + 8 * 0 + k) g) := bZ_of.mpr (fun j hj => by
  by_cases e : j = k
  · subst e; rw [va_up_self]; exact hg
  · rw [va_up_ne _ _ (by omega)]; exact bZ_of.mp h j hj)
theorem sZ_give {σ : sS} {n : Nat} {x : Int32} (h : sZ σ) (hn : n < 7) : sZ (f_X1_giveBrine σ (5 + 8 * 0 + n) (5 + 8 * 0 + (n + 1)) x) := by
  unfold f_X1_giveBrine
  have h1 : sZ (va_up σ (5 + 8 * 0 + n) (f_X1_takeIn (σ (5 + 8 * 0 + n)) (-x) (-f_X3_portion (σ (5 + 8 * 0 + n) 2).toInt64 x.toInt64 (σ (5 + 8 * 0 + n) 1).toInt64) (-f_X3_portion (σ (5 + 8 * 0 + n) 3).toInt64 x.toInt64 (σ (5 + 8 * 0 + n) 1).toInt64) (-f_X3_portion (σ (5 + 8 * 0 + n) 4).toInt64 x.toInt64 (σ (5 + 8 * 0 + n) 1).toInt64))) := sZ_pond h (by omega) (bZ_of.mp h n (by omega))
  exact sZ_pond h1 (by omega) (bZ_of.mp h1 (n + 1) (by omega))
theorem sZ_flow : ∀ (n : Nat) (σ : sS), n ≤ 7 → sZ σ → sZ (f_X2_flow 0 n σ)
  | 0, _, _, h => h
  | n + 1, σ, hn, h => sZ_flow n _ (by omega) (by
    unfold f_X2_flowStep
    split
    · exact h
    · split
      · exact h
      · exact sZ_give h (by omega))
theorem sZ_out {σ τ : sS} (h : sZ σ) (e : ∀ j, j < 8 → τ (5 + 8 * 0 + j) = σ (5 + 8 * 0 + j)) : sZ τ := bZ_of.mpr (fun j hj => by rw [e j hj]; exact bZ_of.mp h j hj)
theorem sZ_day {σ : sS} {x y z : Int32} (h : sZ σ) : sZ (f_X2_letDayGoBy σ 0 x y z) := by
  have h0 : sZ (f_X2_start σ 0 x y) := sZ_out h (fun j hj => k_start (by omega))
  have h1 : sZ (f_X2_letSeaIn (f_X2_start σ 0 x y) 0) := by
    unfold f_X2_letSeaIn
    split
    · exact h0
    · split
      · exact h0
      · unfold f_X2_sea
        refine sZ_out ?_ (fun j hj => va_up_ne _ _ (by omega))
        exact sZ_pond h0 (k := 0) (by omega) (bZ_of.mp h0 0 (by omega))
  have h2 : sZ (f_flown σ 0 x y) := sZ_flow 7 _ (Nat.le_refl _) h1
  exact bZ_of.mpr (fun k hk => by rw [dy_at hk]; exact bZ_pF (bZ_of.mp h2 k hk))
theorem sZ_days {x y z : Int32} : ∀ (m : Nat) (σ : sS), sZ σ → sZ (f_X3_days 0 x y z m σ)
  | 0, _, h => h
  | m + 1, _, h => sZ_days m _ (sZ_day h)
/-- what three families have of a thing -/
def F3 (q : Nat) (σ : sS) : Int := (σ (22 + 0) q).toInt + (σ (22 + 1) q).toInt + (σ (22 + 2) q).toInt
/-- the object at a point of the law -/
def gI (B1 B2 B3 : Int) (σ : sS) : Prop :=
  rI B1 B2 B3 σ ∧ (∀ k, k < 8 → pH (σ (5 + 8 * 0 + k))) ∧ sZ σ ∧ 0 ≤ (σ (1 + 0) 1).toInt ∧ σ 0 3 = nI 3 ∧
  (∀ j, j < 3 → 0 ≤ (σ (22 + j) 1).toInt ∧ 0 ≤ (σ (22 + j) 2).toInt ∧ σ (22 + j) 5 = 0) ∧
  (∀ j, j < 3 → ∀ q, q < 3 → 0 ≤ (σ (28 + j) q).toInt) ∧ (∀ q, q < 3 → (σ (28 + 0) q).toInt + (σ (28 + 1) q).toInt + (σ (28 + 2) q).toInt ≤ 12) ∧
  (∀ q, 4 ≤ q → q < 9 → 0 ≤ (σ 0 q).toInt) ∧
  S8 w1 σ + (σ 0 4).toInt ≤ B1 ∧ S8 w2 σ + F3 1 σ + (σ 0 5).toInt + (σ 0 6).toInt + (σ 0 7).toInt ≤ B2 ∧ S8 w3 σ + F3 2 σ + (σ 0 8).toInt ≤ B3
/-- no sum is less -/
def gM (σ τ : sS) : Prop := ∀ q, 4 ≤ q → q < 9 → (σ 0 q).toInt ≤ (τ 0 q).toInt
theorem gI_S {B1 B2 B3 : Int} {σ : sS} (h : gI B1 B2 B3 σ) : 0 ≤ S8 w1 σ ∧ 0 ≤ S8 w2 σ ∧ 0 ≤ S8 w3 σ := by
  have a := S8_ge (w := w1) (fun j hj => (pI_w (h.1.1 j hj)).1) (k := 0) (by omega)
  have b := S8_ge (w := w2) (fun j hj => (pI_w (h.1.1 j hj)).2.1) (k := 0) (by omega)
  have c := S8_ge (w := w3) (fun j hj => (pI_w (h.1.1 j hj)).2.2) (k := 0) (by omega)
  have p := pI_w (h.1.1 0 (by omega))
  omega
theorem gI_mono {B1 B2 B3 C1 C2 C3 : Int} {σ : sS} (h : gI B1 B2 B3 σ) (h1 : B1 ≤ C1) (h2 : B2 ≤ C2) (h3 : B3 ≤ C3) : gI C1 C2 C3 σ := by
  obtain ⟨a, b, c, d, e, f, g, r, o, s1, s2, s3⟩ := h
  exact ⟨rI_mono a h1 h2 h3, b, c, d, e, f, g, r, o, by omega, by omega, by omega⟩
/-- days go by -/
theorem gI_pass {B1 B2 B3 : Int} {σ : sS} {x y z : Int32} {m : Nat} (h : gI B1 B2 B3 σ) (hd : (σ (1 + 0) 1).toInt + m < 100000) (s0 : 0 ≤ (x + y).toInt) (s1 : (x + y).toInt ≤ 18) (h0 : 0 ≤ z.toInt) (h1 : z.toInt ≤ 40) (c1 : B1 + 490 * m ≤ 9000000) (c2 : B2 + 6060 * m ≤ 9000000) (c3 : B3 + 1616 * m ≤ 9000000) : gI (B1 + 490 * m) (B2 + 6060 * m) (B3 + 1616 * m) (f_X3_days 0 x y z m σ) ∧ gM σ (f_X3_days 0 x y z m σ) ∧ (f_X3_days 0 x y z m σ (1 + 0) 1).toInt = (σ (1 + 0) 1).toInt + m := by
  have hS := gI_S h
  obtain ⟨a, b, c, d, e, f, g, r, o, t1, t2, t3⟩ := h
  have k0 : ∀ i, i = 0 ∨ 13 ≤ i → f_X3_days 0 x y z m σ i = σ i := fun i hi => k_days ⟨by omega, by omega⟩ m σ
  have o4 := o 4 (by decide) (by decide)
  have o5 := o 5 (by decide) (by decide)
  have o6 := o 6 (by decide) (by decide)
  have o7 := o 7 (by decide) (by decide)
  have o8 := o 8 (by decide) (by decide)
  have f0 := f 0 (by decide)
  have f1 := f 1 (by decide)
  have f2 := f 2 (by decide)
  have hF1 : 0 ≤ F3 1 σ := by unfold F3; omega
  have hF2 : 0 ≤ F3 2 σ := by unfold F3; omega
  -- the row with exact sums
  have a' : rI (S8 w1 σ) (S8 w2 σ) (S8 w3 σ) σ := ⟨a.1, by omega⟩
  have A := rI_days s0 s1 h0 h1 m (S8 w1 σ) (S8 w2 σ) (S8 w3 σ) σ a' d hd (by omega) (by omega) (by omega) (Or.inr b)
  have hA := A.1.2
  have eF : ∀ q, F3 q (f_X3_days 0 x y z m σ) = F3 q σ := fun q => by unfold F3; rw [k0 (22 + 0) (Or.inr (by omega)), k0 (22 + 1) (Or.inr (by omega)), k0 (22 + 2) (Or.inr (by omega))]
  refine ⟨⟨rI_mono A.1 (by omega) (by omega) (by omega), A.2.1, sZ_days m σ c, by rw [A.2.2]; omega, by rw [k0 0 (Or.inl rfl)]; exact e, fun j hj => by rw [k0 (22 + j) (Or.inr (by omega))]; exact f j hj, fun j hj q hq => by rw [k0 (28 + j) (Or.inr (by omega))]; exact g j hj q hq, fun q hq => by rw [k0 (28 + 0) (Or.inr (by omega)), k0 (28 + 1) (Or.inr (by omega)), k0 (28 + 2) (Or.inr (by omega))]; exact r q hq, fun q h1 h2 => by rw [k0 0 (Or.inl rfl)]; exact o q h1 h2, by rw [k0 0 (Or.inl rfl)]; omega, by rw [k0 0 (Or.inl rfl), eF]; omega, by rw [k0 0 (Or.inl rfl), eF]; omega⟩, fun q h1 h2 => by rw [k0 0 (Or.inl rfl)]; exact Int.le_refl _, A.2.2⟩
/-- a step that changes one pond, the families' heaps, the sums -/
theorem gI_mk {B1 B2 B3 C3 : Int} {σ τ : sS} {k : Nat} {g : Nat → Int32} (h : gI B1 B2 B3 σ) (hk : k < 8) (eP : ∀ j, j < 8 → τ (5 + 8 * 0 + j) = va_up σ (5 + 8 * 0 + k) g (5 + 8 * 0 + j)) (hg : pI g) (hH : pH g) (hZ : bZ g) (ed : τ (1 + 0) 1 = σ (1 + 0) 1) (e3 : τ 0 3 = σ 0 3) (eR : ∀ j, j < 3 → τ (28 + j) = σ (28 + j)) (hf : ∀ j, j < 3 → 0 ≤ (τ (22 + j) 1).toInt ∧ 0 ≤ (τ (22 + j) 2).toInt ∧ τ (22 + j) 5 = 0) (hM : gM σ τ)
    (s1 : w1 g + (τ 0 4).toInt ≤ w1 (σ (5 + 8 * 0 + k)) + (σ 0 4).toInt) (s2 : w2 g + F3 1 τ + (τ 0 5).toInt + (τ 0 6).toInt + (τ 0 7).toInt ≤ w2 (σ (5 + 8 * 0 + k)) + F3 1 σ + (σ 0 5).toInt + (σ 0 6).toInt + (σ 0 7).toInt) (s3 : w3 g + F3 2 τ + (τ 0 8).toInt + B3 ≤ w3 (σ (5 + 8 * 0 + k)) + F3 2 σ + (σ 0 8).toInt + C3) : gI B1 B2 C3 τ := by
  obtain ⟨a, b, c, d, e, f, gg, r, o, t1, t2, t3⟩ := h
  have u1 := S8_up (w := w1) (σ := σ) (g := g) hk
  have u2 := S8_up (w := w2) (σ := σ) (g := g) hk
  have u3 := S8_up (w := w3) (σ := σ) (g := g) hk
  have eS : ∀ w : (Nat → Int32) → Int, S8 w τ = S8 w (va_up σ (5 + 8 * 0 + k) g) := fun w => S8_out eP
  have pond : ∀ j, j < 8 → pI (τ (5 + 8 * 0 + j)) ∧ pH (τ (5 + 8 * 0 + j)) ∧ bZ (τ (5 + 8 * 0 + j)) := fun j hj => by
    rw [eP j hj]
    by_cases q : j = k
    · subst q; rw [va_up_self]; exact ⟨hg, hH, hZ⟩
    · rw [va_up_ne _ _ (by omega)]; exact ⟨a.1 j hj, b j hj, bZ_of.mp c j hj⟩
  have o4 := hM 4 (by decide) (by decide)
  have o5 := hM 5 (by decide) (by decide)
  have o6 := hM 6 (by decide) (by decide)
  have o7 := hM 7 (by decide) (by decide)
  have o8 := hM 8 (by decide) (by decide)
  have p4 := o 4 (by decide) (by decide)
  have p5 := o 5 (by decide) (by decide)
  have p6 := o 6 (by decide) (by decide)
  have p7 := o 7 (by decide) (by decide)
  have p8 := o 8 (by decide) (by decide)
  have f0 := hf 0 (by decide)
  have f1 := hf 1 (by decide)
  have f2 := hf 2 (by decide)
  have hF1 : 0 ≤ F3 1 τ := by unfold F3; omega
  have hF2 : 0 ≤ F3 2 τ := by unfold F3; omega
  have q1 := eS w1
  have q2 := eS w2
  have q3 := eS w3
  exact ⟨⟨fun j hj => (pond j hj).1, by omega⟩, fun j hj => (pond j hj).2.1, bZ_of.mpr (fun j hj => (pond j hj).2.2), by rw [ed]; exact d, by rw [e3]; exact e, hf, fun j hj q hq => by rw [eR j hj]; exact gg j hj q hq, fun q hq => by rw [eR 0 (by decide), eR 1 (by decide), eR 2 (by decide)]; exact r q hq, fun q h1 h2 => by have := hM q h1 h2; have := o q h1 h2; omega, by omega, by omega, by omega⟩
/-- rain from a pond -/
theorem gI_skim {B1 B2 B3 : Int} {σ : sS} {k : Nat} (h : gI B1 B2 B3 σ) (hk : k < 8) (c1 : B1 ≤ 9000000) : gI B1 B2 B3 (f_X3_skim σ k) ∧ gM σ (f_X3_skim σ k) ∧ (f_X3_skim σ k (1 + 0) 1) = σ (1 + 0) 1 := by
  have hS := gI_S h
  have h' := h
  obtain ⟨a, b, c, d, e, f, g, r, o, t1, t2, t3⟩ := h'
  obtain ⟨a1, a9, f1, f2, f3, f4, f5, f6, f7, f10⟩ := a.1 k hk
  have hge := S8_ge (w := w1) (fun j hj => (pI_w (a.1 j hj)).1) hk
  have hw : w1 (σ (5 + 8 * 0 + k)) = (σ (5 + 8 * 0 + k) 1).toInt + (σ (5 + 8 * 0 + k) 5).toInt := rfl
  have o4 := o 4 (by decide) (by decide)
  have q4 : (σ 0 4 + σ (5 + 8 * 0 + k) 5).toInt = (σ 0 4).toInt + (σ (5 + 8 * 0 + k) 5).toInt := ti_add (by omega) (by omega)
  have hE : f_X3_skim σ k = va_up (va_up σ (5 + 8 * 0 + k) (upd (σ (5 + 8 * 0 + k)) 5 0)) 0 (upd (σ 0) 4 (σ 0 4 + σ (5 + 8 * 0 + k) 5)) := by
    have e : (va_up σ (5 + 8 * 0 + k) (upd (σ (5 + 8 * 0 + k)) 5 0) : sS) 0 = σ 0 := va_up_ne _ _ (by omega)
    show va_up (va_up σ (5 + 8 * 0 + k) (upd (σ (5 + 8 * 0 + k)) 5 0)) 0 (upd ((va_up σ (5 + 8 * 0 + k) (upd (σ (5 + 8 * 0 + k)) 5 0) : sS) 0) 4 ((va_up σ (5 + 8 * 0 + k) (upd (σ (5 + 8 * 0 + k)) 5 0) : sS) 0 4 + σ (5 + 8 * 0 + k) 5)) = _
    rw [e]
  rw [hE]
  have e0 : ∀ i, i ≠ 0 → i ≠ 5 + 8 * 0 + k → (va_up (va_up σ (5 + 8 * 0 + k) (upd (σ (5 + 8 * 0 + k)) 5 0)) 0 (upd (σ 0) 4 (σ 0 4 + σ (5 + 8 * 0 + k) 5)) : sS) i = σ i := fun i h1 h2 => by rw [va_up_ne _ _ h1, va_up_ne _ _ h2]
  have ep : ∀ j, j < 8 → (va_up (va_up σ (5 + 8 * 0 + k) (upd (σ (5 + 8 * 0 + k)) 5 0)) 0 (upd (σ 0) 4 (σ 0 4 + σ (5 + 8 * 0 + k) 5)) : sS) (5 + 8 * 0 + j) = va_up σ (5 + 8 * 0 + k) (upd (σ (5 + 8 * 0 + k)) 5 0) (5 + 8 * 0 + j) := fun j hj => va_up_ne _ _ (by omega)
  have ez : (va_up (va_up σ (5 + 8 * 0 + k) (upd (σ (5 + 8 * 0 + k)) 5 0)) 0 (upd (σ 0) 4 (σ 0 4 + σ (5 + 8 * 0 + k) 5)) : sS) 0 = upd (σ 0) 4 (σ 0 4 + σ (5 + 8 * 0 + k) 5) := va_up_self _ _ _
  generalize (va_up (va_up σ (5 + 8 * 0 + k) (upd (σ (5 + 8 * 0 + k)) 5 0)) 0 (upd (σ 0) 4 (σ 0 4 + σ (5 + 8 * 0 + k) 5)) : sS) = τ at e0 ep ez ⊢
  have z4 : τ 0 4 = σ 0 4 + σ (5 + 8 * 0 + k) 5 := by rw [ez]; rfl
  have zq : ∀ q, q ≠ 4 → τ 0 q = σ 0 q := fun q hq => by rw [ez]; unfold upd; rw [if_neg hq]
  have hM : gM σ τ := fun q h1 h2 => by
    by_cases e : q = 4
    · subst e; rw [z4]; omega
    · rw [zq q e]; exact Int.le_refl _
  have eF : ∀ q, F3 q τ = F3 q σ := fun q => by unfold F3; rw [e0 (22 + 0) (by omega) (by omega), e0 (22 + 1) (by omega) (by omega), e0 (22 + 2) (by omega) (by omega)]
  have v1 : w1 (upd (σ (5 + 8 * 0 + k)) 5 0) = (σ (5 + 8 * 0 + k) 1).toInt + 0 := rfl
  have v2 : w2 (upd (σ (5 + 8 * 0 + k)) 5 0) = w2 (σ (5 + 8 * 0 + k)) := rfl
  have v3 : w3 (upd (σ (5 + 8 * 0 + k)) 5 0) = w3 (σ (5 + 8 * 0 + k)) := rfl
  have ed : τ (1 + 0) 1 = σ (1 + 0) 1 := by rw [e0 (1 + 0) (by omega) (by omega)]
  refine ⟨gI_mk (C3 := B3) h hk ep ⟨a1, a9, f1, f2, f3, f4, by show 0 ≤ (0 : Int32).toInt; decide, f6, f7, f10⟩ (b k hk) (bZ_of.mp c k hk) ed (zq 3 (by decide)) (fun j hj => e0 _ (by omega) (by omega)) (fun j hj => by rw [e0 (22 + j) (by omega) (by omega)]; exact f j hj) hM (by rw [v1, z4, hw]; omega) (by rw [v2, eF, zq 5 (by decide), zq 6 (by decide), zq 7 (by decide)]; exact Int.le_refl _) (by rw [v3, eF, zq 8 (by decide)]; exact Int.le_refl _), hM, ed⟩
theorem tr_20 (e : Int32) : f_X3_roundedUp e 20 = (e + 19) / 20 := by
  unfold f_X3_roundedUp
  rw [if_pos (by decide), Int32.sub_eq_add_neg, Int32.add_assoc]
  rfl
theorem F3_up {q j : Nat} {σ τ : sS} (hj : j < 3) (h : ∀ i, i < 3 → i ≠ j → τ (22 + i) = σ (22 + i)) : F3 q τ = F3 q σ - (σ (22 + j) q).toInt + (τ (22 + j) q).toInt := by
  unfold F3
  rcases (show j = 0 ∨ j = 1 ∨ j = 2 by omega) with rfl | rfl | rfl
  · rw [h 1 (by omega) (by omega), h 2 (by omega) (by omega)]; omega
  · rw [h 0 (by omega) (by omega), h 2 (by omega) (by omega)]; omega
  · rw [h 0 (by omega) (by omega), h 1 (by omega) (by omega)]; omega
/-- a heap is washed -/
theorem gI_wash {B1 B2 B3 : Int} {σ : sS} {j : Nat} (h : gI B1 B2 B3 σ) (hj : j < 3) (c2 : B2 ≤ 9000000) (c3 : B3 ≤ 9000000) : gI B1 B2 B3 (f_X3_wash σ j) ∧ gM σ (f_X3_wash σ j) ∧ (f_X3_wash σ j (1 + 0) 1) = σ (1 + 0) 1 := by
  have hS := gI_S h
  have h' := h
  obtain ⟨a, b, c, d, e, f, g, r, o, t1, t2, t3⟩ := h'
  have fj := f j hj
  have f0 := f 0 (by decide)
  have f1 := f 1 (by decide)
  have f2 := f 2 (by decide)
  have p5 := o 5 (by decide) (by decide)
  have p6 := o 6 (by decide) (by decide)
  have p7 := o 7 (by decide) (by decide)
  have p8 := o 8 (by decide) (by decide)
  have hb1 : (σ (22 + j) 1).toInt ≤ F3 1 σ := by
    unfold F3
    rcases (show j = 0 ∨ j = 1 ∨ j = 2 by omega) with rfl | rfl | rfl <;> omega
  have hb2 : (σ (22 + j) 2).toInt ≤ F3 2 σ := by
    unfold F3
    rcases (show j = 0 ∨ j = 1 ∨ j = 2 by omega) with rfl | rfl | rfl <;> omega
  have e19 : (19 : Int32).toInt = 19 := rfl
  have e1 : (1 : Int32).toInt = 1 := rfl
  have e20 : (20 : Int32).toInt = 20 := rfl
  have q1 : (f_X3_roundedUp (σ (22 + j) 1) 20).toInt = ((σ (22 + j) 1).toInt + 19) / 20 := by
    rw [tr_20, ti_div (by rw [ti_add (by omega) (by omega)]; omega) (by decide), ti_add (by omega) (by omega), e19, e20]
  have q2 : (f_X3_roundedUp (σ (22 + j) 2) 2).toInt = ((σ (22 + j) 2).toInt + 1) / 2 := by
    rw [tr_2, ti_half (by rw [ti_add (by omega) (by omega)]; omega), ti_add (by omega) (by omega), e1]
  have hE : f_X3_wash σ j = va_up (va_up σ (22 + j) (upd (upd (σ (22 + j)) 2 (σ (22 + j) 2 - f_X3_roundedUp (σ (22 + j) 2) 2)) 1 (σ (22 + j) 1 - f_X3_roundedUp (σ (22 + j) 1) 20))) 0 (upd (σ 0) 5 (σ 0 5 + f_X3_roundedUp (σ (22 + j) 1) 20)) := by
    show va_up (va_up (va_up σ (22 + j) _) (22 + j) (upd ((va_up σ (22 + j) _ : sS) (22 + j)) 1 ((va_up σ (22 + j) _ : sS) (22 + j) 1 - _))) 0 (upd ((va_up (va_up σ (22 + j) _) (22 + j) _ : sS) 0) 5 ((va_up (va_up σ (22 + j) _) (22 + j) _ : sS) 0 5 + _)) = _
    rw [sup_up, va_up_self, va_up_ne _ _ (show (0 : Nat) ≠ 22 + j by omega)]
    rfl
  rw [hE]
  generalize f_X3_roundedUp (σ (22 + j) 1) 20 = r1 at q1 ⊢
  generalize f_X3_roundedUp (σ (22 + j) 2) 2 = r2 at q2 ⊢
  have m1 : (σ (22 + j) 1 - r1).toInt = (σ (22 + j) 1).toInt - r1.toInt := ti_sub (by omega) (by omega)
  have m2 : (σ (22 + j) 2 - r2).toInt = (σ (22 + j) 2).toInt - r2.toInt := ti_sub (by omega) (by omega)
  have m5 : (σ 0 5 + r1).toInt = (σ 0 5).toInt + r1.toInt := ti_add (by omega) (by omega)
  have e0 : ∀ i, i ≠ 0 → i ≠ 22 + j → (va_up (va_up σ (22 + j) (upd (upd (σ (22 + j)) 2 (σ (22 + j) 2 - r2)) 1 (σ (22 + j) 1 - r1))) 0 (upd (σ 0) 5 (σ 0 5 + r1)) : sS) i = σ i := fun i h1 h2 => by rw [va_up_ne _ _ h1, va_up_ne _ _ h2]
  have ej : (va_up (va_up σ (22 + j) (upd (upd (σ (22 + j)) 2 (σ (22 + j) 2 - r2)) 1 (σ (22 + j) 1 - r1))) 0 (upd (σ 0) 5 (σ 0 5 + r1)) : sS) (22 + j) = upd (upd (σ (22 + j)) 2 (σ (22 + j) 2 - r2)) 1 (σ (22 + j) 1 - r1) := by rw [va_up_ne _ _ (by omega), va_up_self]
  have ez : (va_up (va_up σ (22 + j) (upd (upd (σ (22 + j)) 2 (σ (22 + j) 2 - r2)) 1 (σ (22 + j) 1 - r1))) 0 (upd (σ 0) 5 (σ 0 5 + r1)) : sS) 0 = upd (σ 0) 5 (σ 0 5 + r1) := va_up_self _ _ _
  generalize (va_up (va_up σ (22 + j) (upd (upd (σ (22 + j)) 2 (σ (22 + j) 2 - r2)) 1 (σ (22 + j) 1 - r1))) 0 (upd (σ 0) 5 (σ 0 5 + r1)) : sS) = τ at e0 ej ez ⊢
  have z5 : τ 0 5 = σ 0 5 + r1 := by rw [ez]; rfl
  have zq : ∀ q, q ≠ 5 → τ 0 q = σ 0 q := fun q hq => by rw [ez]; unfold upd; rw [if_neg hq]
  have hM : gM σ τ := fun q h1 h2 => by
    by_cases e : q = 5
    · subst e; rw [z5]; omega
    · rw [zq q e]; exact Int.le_refl _
  have y1 : τ (22 + j) 1 = σ (22 + j) 1 - r1 := by rw [ej]; rfl
  have y2 : τ (22 + j) 2 = σ (22 + j) 2 - r2 := by rw [ej]; rfl
  have y5 : τ (22 + j) 5 = σ (22 + j) 5 := by rw [ej]; rfl
  have hF1 := F3_up (q := 1) (σ := σ) (τ := τ) hj (fun i hi hn => e0 (22 + i) (by omega) (by omega))
  have hF2 := F3_up (q := 2) (σ := σ) (τ := τ) hj (fun i hi hn => e0 (22 + i) (by omega) (by omega))
  have ed : τ (1 + 0) 1 = σ (1 + 0) 1 := by rw [e0 (1 + 0) (by omega) (by omega)]
  refine ⟨gI_mk (C3 := B3) (k := 0) (g := σ (5 + 8 * 0 + 0)) h (by omega) (fun i hi => by rw [sup_id]; exact e0 _ (by omega) (by omega)) (a.1 0 (by omega)) (b 0 (by omega)) (bZ_of.mp c 0 (by omega)) ed (zq 3 (by decide)) (fun i hi => e0 _ (by omega) (by omega)) (fun i hi => ?_) hM (by rw [zq 4 (by decide)]; exact Int.le_refl _) (by rw [z5, zq 6 (by decide), zq 7 (by decide), hF1, y1]; omega) (by rw [zq 8 (by decide), hF2, y2]; omega), hM, ed⟩
  by_cases q : i = j
  · subst q
    rw [y1, y2, y5]
    exact ⟨by omega, by omega, fj.2.2⟩
  · rw [e0 (22 + i) (by omega) (by omega)]
    exact f i hi
theorem upd_ne {f : Nat → Int32} {k j : Nat} {v : Int32} (h : j ≠ k) : upd f k v j = f j := if_neg h
theorem gs_out {σ : sS} {j i : Nat} {x y : Int32} (h : i ≠ 22 + j) : f_X0_getSalt σ j x y i = σ i := by
  unfold f_X0_getSalt
  rw [va_up_ne _ _ h, va_up_ne _ _ h, va_up_ne _ _ h]
theorem gs_at {σ : sS} {j : Nat} {x y : Int32} : f_X0_getSalt σ j x y (22 + j) = upd (upd (upd (σ (22 + j)) 1 (σ (22 + j) 1 + x)) 2 (σ (22 + j) 2 + y)) 4 (σ (22 + j) 4 + x) := by
  unfold f_X0_getSalt
  simp only [va_up_self, sup_up]
  rw [upd_ne (show 2 ≠ 1 by decide), upd_ne (show 4 ≠ 2 by decide), upd_ne (show 4 ≠ 1 by decide)]
/-- a twelfth's part -/
theorem tw_part {v r : Int32} (hv : 0 ≤ v.toInt) (hr : 0 ≤ r.toInt) (hr2 : r.toInt ≤ 12) : (f_X3_portion v.toInt64 r.toInt64 12).toInt = v.toInt * r.toInt / 12 ∧ 0 ≤ v.toInt * r.toInt / 12 ∧ v.toInt * r.toInt / 12 ≤ v.toInt := by
  have h12 : (12 : Int32).toInt = 12 := rfl
  have hm : v.toInt * r.toInt ≤ v.toInt * 12 := Int.mul_le_mul_of_nonneg_left hr2 hv
  have hp : 0 ≤ v.toInt * r.toInt := Int.mul_nonneg hv hr
  have hh := ti_hi v
  have a := tp_share (x := v) (y := r) (z := 12) (by decide)
  have b := tp_val (x := v) (y := r) (z := 12) hv hr (by decide) (by rw [h12]; omega)
  have c : f_X3_portion v.toInt64 r.toInt64 12 = g_X6_share v r 12 := a
  rw [c, b, h12]
  omega
/-- three families' parts are not more than the whole -/
theorem tw_sum {v r0 r1 r2 : Int} (hv : 0 ≤ v) (h : r0 + r1 + r2 ≤ 12) : v * r0 / 12 + v * r1 / 12 + v * r2 / 12 ≤ v := by
  have hm : v * (r0 + r1 + r2) ≤ v * 12 := Int.mul_le_mul_of_nonneg_left h hv
  have e : v * (r0 + r1 + r2) = v * r0 + v * r1 + v * r2 := by rw [Int.mul_add, Int.mul_add]
  omega
theorem so_3 {σ : sS} {q : Nat} {x y : Int32} : f_X3_so q x y 3 0 σ = f_X0_getSalt (f_X0_getSalt (f_X0_getSalt σ 0 (f_X3_portion x.toInt64 (σ (28 + 0) q).toInt64 12) (f_X3_portion y.toInt64 (σ (28 + 0) q).toInt64 12)) 1 (f_X3_portion x.toInt64 (σ (28 + 1) q).toInt64 12) (f_X3_portion y.toInt64 (σ (28 + 1) q).toInt64 12)) 2 (f_X3_portion x.toInt64 (σ (28 + 2) q).toInt64 12) (f_X3_portion y.toInt64 (σ (28 + 2) q).toInt64 12) := by
  simp only [f_X3_so]
  rw [gs_out (show 28 + (0 + 1) ≠ 22 + 0 by decide), gs_out (show 28 + (0 + 1 + 1) ≠ 22 + (0 + 1) by decide), gs_out (show 28 + (0 + 1 + 1) ≠ 22 + 0 by decide)]
theorem soS_3 {σ : sS} {q : Nat} {x y v : Int32} : f_X3_soS q x y 3 0 σ v = v - f_X3_portion x.toInt64 (σ (28 + 0) q).toInt64 12 - f_X3_portion x.toInt64 (σ (28 + 1) q).toInt64 12 - f_X3_portion x.toInt64 (σ (28 + 2) q).toInt64 12 := by
  simp only [f_X3_soS]
  rw [gs_out (show 28 + (0 + 1) ≠ 22 + 0 by decide), gs_out (show 28 + (0 + 1 + 1) ≠ 22 + (0 + 1) by decide), gs_out (show 28 + (0 + 1 + 1) ≠ 22 + 0 by decide)]
theorem soD_3 {σ : sS} {q : Nat} {x y v : Int32} : f_X3_soD q x y 3 0 σ v = v - f_X3_portion y.toInt64 (σ (28 + 0) q).toInt64 12 - f_X3_portion y.toInt64 (σ (28 + 1) q).toInt64 12 - f_X3_portion y.toInt64 (σ (28 + 2) q).toInt64 12 := by
  simp only [f_X3_soD]
  rw [gs_out (show 28 + (0 + 1) ≠ 22 + 0 by decide), gs_out (show 28 + (0 + 1 + 1) ≠ 22 + (0 + 1) by decide), gs_out (show 28 + (0 + 1 + 1) ≠ 22 + 0 by decide)]
/-- what a harvest leaves: cells -/
theorem hv_cells {σ : sS} {q : Nat} {x s d fl : Int32} (hs : f_X1_saltOfHarvest (σ (5 + 8 * 0 + (5 + q))) x = s) (hd : f_X1_dirtOfCrustWith (σ (5 + 8 * 0 + (5 + q))) s = d) (hf : f_X1_dirtOfFloor (σ (5 + 8 * 0 + (5 + q))) x = fl) (hq : q < 3) :
    (f_X3_harvest σ q 3 x) (5 + 8 * 0 + (5 + q)) = upd (upd (upd (σ (5 + 8 * 0 + (5 + q))) 6 (σ (5 + 8 * 0 + (5 + q)) 6 - s)) 7 (σ (5 + 8 * 0 + (5 + q)) 7 - d)) 11 1 ∧
    (f_X3_harvest σ q 3 x) 0 = upd (upd (upd (σ 0) 6 (σ 0 6 + s / 10)) 7 (σ 0 7 + ((s - s / 10) - f_X3_portion (s - s / 10).toInt64 (σ (28 + 0) q).toInt64 12 - f_X3_portion (s - s / 10).toInt64 (σ (28 + 1) q).toInt64 12 - f_X3_portion (s - s / 10).toInt64 (σ (28 + 2) q).toInt64 12))) 8 (σ 0 8 + ((d + fl) - f_X3_portion (d + fl).toInt64 (σ (28 + 0) q).toInt64 12 - f_X3_portion (d + fl).toInt64 (σ (28 + 1) q).toInt64 12 - f_X3_portion (d + fl).toInt64 (σ (28 + 2) q).toInt64 12)) ∧
    (∀ j, j < 3 → (f_X3_harvest σ q 3 x) (22 + j) = upd (upd (upd (σ (22 + j)) 1 (σ (22 + j) 1 + f_X3_portion (s - s / 10).toInt64 (σ (28 + j) q).toInt64 12)) 2 (σ (22 + j) 2 + f_X3_portion (d + fl).toInt64 (σ (28 + j) q).toInt64 12)) 4 (σ (22 + j) 4 + f_X3_portion (s - s / 10).toInt64 (σ (28 + j) q).toInt64 12)) ∧
    (∀ i, i ≠ 0 → i ≠ 5 + 8 * 0 + (5 + q) → (i < 22 ∨ 25 ≤ i) → (f_X3_harvest σ q 3 x) i = σ i) := by
  have E : f_X3_harvest σ q 3 x = f_X3_shareOut (va_up (va_up σ (5 + 8 * 0 + (5 + q)) (upd (upd (upd (σ (5 + 8 * 0 + (5 + q))) 6 (σ (5 + 8 * 0 + (5 + q)) 6 - s)) 7 (σ (5 + 8 * 0 + (5 + q)) 7 - d)) 11 1)) 0 (upd (σ 0) 6 (σ 0 6 + s / 10))) q 3 (s - s / 10) (d + fl) := by
    unfold f_X3_harvest f_X3_crownsPart
    simp only [hs, hd, hf, va_up_self, sup_up]
    rw [va_up_ne _ _ (show (0 : Nat) ≠ 5 + 8 * 0 + (5 + q) by omega), upd_ne (show 7 ≠ 6 by decide)]
  rw [E]
  generalize hρ : (va_up (va_up σ (5 + 8 * 0 + (5 + q)) (upd (upd (upd (σ (5 + 8 * 0 + (5 + q))) 6 (σ (5 + 8 * 0 + (5 + q)) 6 - s)) 7 (σ (5 + 8 * 0 + (5 + q)) 7 - d)) 11 1)) 0 (upd (σ 0) 6 (σ 0 6 + s / 10)) : sS) = ρ
  have r0 : ρ 0 = upd (σ 0) 6 (σ 0 6 + s / 10) := by rw [← hρ, va_up_self]
  have rp : ρ (5 + 8 * 0 + (5 + q)) = upd (upd (upd (σ (5 + 8 * 0 + (5 + q))) 6 (σ (5 + 8 * 0 + (5 + q)) 6 - s)) 7 (σ (5 + 8 * 0 + (5 + q)) 7 - d)) 11 1 := by rw [← hρ, va_up_ne _ _ (by omega), va_up_self]
  have re : ∀ i, i ≠ 0 → i ≠ 5 + 8 * 0 + (5 + q) → ρ i = σ i := fun i h1 h2 => by rw [← hρ, va_up_ne _ _ h1, va_up_ne _ _ h2]
  clear hρ
  unfold f_X3_shareOut
  rw [so_3, soS_3, soD_3, re (28 + 0) (by omega) (by omega), re (28 + 1) (by omega) (by omega), re (28 + 2) (by omega) (by omega)]
  generalize hP : (fun j : Nat => f_X3_portion (s - s / 10).toInt64 (σ (28 + j) q).toInt64 12) = P
  generalize hE : (fun j : Nat => f_X3_portion (d + fl).toInt64 (σ (28 + j) q).toInt64 12) = Eq
  have P0 : ∀ j, f_X3_portion (s - s / 10).toInt64 (σ (28 + j) q).toInt64 12 = P j := fun j => by rw [← hP]
  have E0 : ∀ j, f_X3_portion (d + fl).toInt64 (σ (28 + j) q).toInt64 12 = Eq j := fun j => by rw [← hE]
  simp only [P0, E0]
  generalize hG : (f_X0_getSalt (f_X0_getSalt (f_X0_getSalt ρ 0 (P 0) (Eq 0)) 1 (P 1) (Eq 1)) 2 (P 2) (Eq 2)) = G
  have Go : ∀ i, i < 22 ∨ 25 ≤ i → G i = ρ i := fun i hi => by rw [← hG, gs_out (by omega), gs_out (by omega), gs_out (by omega)]
  have Gj : ∀ j, j < 3 → G (22 + j) = upd (upd (upd (ρ (22 + j)) 1 (ρ (22 + j) 1 + P j)) 2 (ρ (22 + j) 2 + Eq j)) 4 (ρ (22 + j) 4 + P j) := fun j hj => by
    rw [← hG]
    rcases (show j = 0 ∨ j = 1 ∨ j = 2 by omega) with rfl | rfl | rfl
    · rw [gs_out (by decide), gs_out (by decide), gs_at]
    · rw [gs_out (by decide), gs_at, gs_out (by decide)]
    · rw [gs_at, gs_out (by decide), gs_out (by decide)]
  clear hG
  have hT : va_up (va_up G 0 (upd (G 0) 7 (G 0 7 + (s - s / 10 - P 0 - P 1 - P 2)))) 0 (upd ((va_up G 0 (upd (G 0) 7 (G 0 7 + (s - s / 10 - P 0 - P 1 - P 2))) : sS) 0) 8 ((va_up G 0 (upd (G 0) 7 (G 0 7 + (s - s / 10 - P 0 - P 1 - P 2))) : sS) 0 8 + (d + fl - Eq 0 - Eq 1 - Eq 2))) = va_up G 0 (upd (upd (G 0) 7 (G 0 7 + (s - s / 10 - P 0 - P 1 - P 2))) 8 (G 0 8 + (d + fl - Eq 0 - Eq 1 - Eq 2))) := by
    rw [sup_up, va_up_self, upd_ne (show 8 ≠ 7 by decide)]
  rw [hT]
  refine ⟨?_, ?_, fun j hj => ?_, fun i h1 h2 h3 => ?_⟩
  · rw [va_up_ne _ _ (by omega), Go _ (Or.inl (by omega)), rp]
  · rw [va_up_self, Go 0 (Or.inl (by omega)), r0, upd_ne (show 7 ≠ 6 by decide), upd_ne (show 8 ≠ 6 by decide)]
  · rw [va_up_ne _ _ (by omega), Gj j hj, re (22 + j) (by omega) (by omega)]
  · rw [va_up_ne _ _ h1, Go i h3, re i h1 h2]
set_option maxHeartbeats 4000000 in
/-- a harvest: nothing is lost, the crown and the cloister have more -/
theorem gI_harvest {B1 B2 B3 : Int} {σ : sS} {q : Nat} {x : Int32} (h : gI B1 B2 B3 σ) (hq : q < 3) (h6 : 1 ≤ (σ (5 + 8 * 0 + (5 + q)) 6).toInt) (c2 : B2 ≤ 9000000) (c3 : B3 ≤ 9000000) : gI B1 B2 (B3 + 90) (f_X3_harvest σ q 3 x) ∧ gM σ (f_X3_harvest σ q 3 x) ∧ (f_X3_harvest σ q 3 x (1 + 0) 1) = σ (1 + 0) 1 := by
  have hS := gI_S h
  have h' := h
  obtain ⟨a, b, c, d, e, f, g, r, o, t1, t2, t3⟩ := h'
  have hk : 5 + q < 8 := by omega
  obtain ⟨a1, a9, f1, f2, f3, f4, f5, f6, f7, f10⟩ := a.1 (5 + q) hk
  have g2 := S8_ge (w := w2) (fun j hj => (pI_w (a.1 j hj)).2.1) hk
  have g3 := S8_ge (w := w3) (fun j hj => (pI_w (a.1 j hj)).2.2) hk
  have y2 : w2 (σ (5 + 8 * 0 + (5 + q))) = (σ (5 + 8 * 0 + (5 + q)) 2).toInt + (σ (5 + 8 * 0 + (5 + q)) 6).toInt := rfl
  have y3 : w3 (σ (5 + 8 * 0 + (5 + q))) = (σ (5 + 8 * 0 + (5 + q)) 3).toInt + (σ (5 + 8 * 0 + (5 + q)) 4).toInt + (σ (5 + 8 * 0 + (5 + q)) 7).toInt := rfl
  have k0 := f 0 (by decide)
  have k1 := f 1 (by decide)
  have k2 := f 2 (by decide)
  have p5 := o 5 (by decide) (by decide)
  have p6 := o 6 (by decide) (by decide)
  have p7 := o 7 (by decide) (by decide)
  have p8 := o 8 (by decide) (by decide)
  have F1 : F3 1 σ = (σ (22 + 0) 1).toInt + (σ (22 + 1) 1).toInt + (σ (22 + 2) 1).toInt := rfl
  have F2 : F3 2 σ = (σ (22 + 0) 2).toInt + (σ (22 + 1) 2).toInt + (σ (22 + 2) 2).toInt := rfl
  have hr0 := g 0 (by decide) q hq
  have hr1 := g 1 (by decide) q hq
  have hr2 := g 2 (by decide) q hq
  have hrs := r q hq
  have e10 : (10 : Int32).toInt = 10 := rfl
  have e200 : (200 : Int32).toInt = 200 := rfl
  have hs : 0 ≤ (f_X1_saltOfHarvest (σ (5 + 8 * 0 + (5 + q))) x).toInt ∧ (f_X1_saltOfHarvest (σ (5 + 8 * 0 + (5 + q))) x).toInt ≤ (σ (5 + 8 * 0 + (5 + q)) 6).toInt := by
    have m : (200 * σ (5 + 8 * 0 + (5 + q)) 0).toInt = 200 * (σ (5 + 8 * 0 + (5 + q)) 0).toInt := by rw [ti_mul (by rw [e200]; omega) (by rw [e200]; omega), e200]
    unfold f_X1_saltOfHarvest
    split
    · rw [ti_min, m]; omega
    · omega
  have hfl : 0 ≤ (f_X1_dirtOfFloor (σ (5 + 8 * 0 + (5 + q))) x).toInt ∧ (f_X1_dirtOfFloor (σ (5 + 8 * 0 + (5 + q))) x).toInt ≤ 90 := by
    have m : (10 * σ (5 + 8 * 0 + (5 + q)) 0).toInt = 10 * (σ (5 + 8 * 0 + (5 + q)) 0).toInt := by rw [ti_mul (by rw [e10]; omega) (by rw [e10]; omega), e10]
    unfold f_X1_dirtOfFloor
    split
    · decide
    · omega
  obtain ⟨vp, v0, vj, vo⟩ := hv_cells (σ := σ) (q := q) (x := x) rfl rfl rfl hq
  generalize f_X1_saltOfHarvest (σ (5 + 8 * 0 + (5 + q))) x = s at hs vp v0 vj vo
  generalize f_X1_dirtOfFloor (σ (5 + 8 * 0 + (5 + q))) x = fl at hfl v0 vj
  have hd : 0 ≤ (f_X1_dirtOfCrustWith (σ (5 + 8 * 0 + (5 + q))) s).toInt ∧ (f_X1_dirtOfCrustWith (σ (5 + 8 * 0 + (5 + q))) s).toInt ≤ (σ (5 + 8 * 0 + (5 + q)) 7).toInt := by
    have m : (σ (5 + 8 * 0 + (5 + q)) 7).toInt * s.toInt ≤ (σ (5 + 8 * 0 + (5 + q)) 7).toInt * (σ (5 + 8 * 0 + (5 + q)) 6).toInt := Int.mul_le_mul_of_nonneg_left hs.2 f7
    have m0 : 0 ≤ (σ (5 + 8 * 0 + (5 + q)) 7).toInt * s.toInt := Int.mul_nonneg f7 hs.1
    have m1 : (σ (5 + 8 * 0 + (5 + q)) 7).toInt * s.toInt / (σ (5 + 8 * 0 + (5 + q)) 6).toInt ≤ (σ (5 + 8 * 0 + (5 + q)) 7).toInt := by
      have := Int.ediv_le_ediv (c := (σ (5 + 8 * 0 + (5 + q)) 6).toInt) (by omega) m
      rw [Int.mul_ediv_cancel _ (by omega)] at this
      exact this
    have hh := ti_hi (σ (5 + 8 * 0 + (5 + q)) 7)
    have q1 := tp_share (x := σ (5 + 8 * 0 + (5 + q)) 7) (y := s) (z := σ (5 + 8 * 0 + (5 + q)) 6) f6
    have q2 := tp_val (x := σ (5 + 8 * 0 + (5 + q)) 7) (y := s) (z := σ (5 + 8 * 0 + (5 + q)) 6) f7 hs.1 h6 (by omega)
    have q3 : f_X1_dirtOfCrustWith (σ (5 + 8 * 0 + (5 + q))) s = g_X6_share (σ (5 + 8 * 0 + (5 + q)) 7) s (σ (5 + 8 * 0 + (5 + q)) 6) := q1
    rw [q3, q2]
    exact ⟨Int.ediv_nonneg m0 (by omega), m1⟩
  generalize f_X1_dirtOfCrustWith (σ (5 + 8 * 0 + (5 + q))) s = dd at hd vp v0 vj
  have hc : (s / 10).toInt = s.toInt / 10 := by rw [ti_div hs.1 (by decide), e10]
  have hv : (s - s / 10).toInt = s.toInt - s.toInt / 10 := by rw [ti_sub (by omega) (by omega), hc]
  have hdf : (dd + fl).toInt = dd.toInt + fl.toInt := ti_add (by omega) (by omega)
  have P0 := tw_part (v := s - s / 10) (r := σ (28 + 0) q) (by omega) hr0 (by omega)
  have P1 := tw_part (v := s - s / 10) (r := σ (28 + 1) q) (by omega) hr1 (by omega)
  have P2 := tw_part (v := s - s / 10) (r := σ (28 + 2) q) (by omega) hr2 (by omega)
  have E0 := tw_part (v := dd + fl) (r := σ (28 + 0) q) (by omega) hr0 (by omega)
  have E1 := tw_part (v := dd + fl) (r := σ (28 + 1) q) (by omega) hr1 (by omega)
  have E2 := tw_part (v := dd + fl) (r := σ (28 + 2) q) (by omega) hr2 (by omega)
  have SP := tw_sum (v := (s - s / 10).toInt) (by omega) hrs
  have SE := tw_sum (v := (dd + fl).toInt) (by omega) hrs
  have J0 := vj 0 (by decide)
  have J1 := vj 1 (by decide)
  have J2 := vj 2 (by decide)
  generalize (s - s / 10).toInt * (σ (28 + 0) q).toInt / 12 = P0v at P0 SP
  generalize (s - s / 10).toInt * (σ (28 + 1) q).toInt / 12 = P1v at P1 SP
  generalize (s - s / 10).toInt * (σ (28 + 2) q).toInt / 12 = P2v at P2 SP
  generalize (dd + fl).toInt * (σ (28 + 0) q).toInt / 12 = E0v at E0 SE
  generalize (dd + fl).toInt * (σ (28 + 1) q).toInt / 12 = E1v at E1 SE
  generalize (dd + fl).toInt * (σ (28 + 2) q).toInt / 12 = E2v at E2 SE
  generalize f_X3_portion (s - s / 10).toInt64 (σ (28 + 0) q).toInt64 12 = q0 at P0 v0 J0
  generalize f_X3_portion (s - s / 10).toInt64 (σ (28 + 1) q).toInt64 12 = q1 at P1 v0 J1
  generalize f_X3_portion (s - s / 10).toInt64 (σ (28 + 2) q).toInt64 12 = q2 at P2 v0 J2
  generalize f_X3_portion (dd + fl).toInt64 (σ (28 + 0) q).toInt64 12 = x0 at E0 v0 J0
  generalize f_X3_portion (dd + fl).toInt64 (σ (28 + 1) q).toInt64 12 = x1 at E1 v0 J1
  generalize f_X3_portion (dd + fl).toInt64 (σ (28 + 2) q).toInt64 12 = x2 at E2 v0 J2
  generalize f_X3_harvest σ q 3 x = τ at vp v0 J0 J1 J2 vo ⊢
  clear vj
  have n7 : (s - s / 10 - q0 - q1 - q2).toInt = (s - s / 10).toInt - P0v - P1v - P2v := by
    have z1 : (s - s / 10 - q0).toInt = (s - s / 10).toInt - q0.toInt := ti_sub (by omega) (by omega)
    have z2 : (s - s / 10 - q0 - q1).toInt = (s - s / 10).toInt - q0.toInt - q1.toInt := by rw [ti_sub (by omega) (by omega), z1]
    rw [ti_sub (by omega) (by omega), z2]
    omega
  have n8 : (dd + fl - x0 - x1 - x2).toInt = (dd + fl).toInt - E0v - E1v - E2v := by
    have z1 : (dd + fl - x0).toInt = (dd + fl).toInt - x0.toInt := ti_sub (by omega) (by omega)
    have z2 : (dd + fl - x0 - x1).toInt = (dd + fl).toInt - x0.toInt - x1.toInt := by rw [ti_sub (by omega) (by omega), z1]
    rw [ti_sub (by omega) (by omega), z2]
    omega
  generalize s - s / 10 - q0 - q1 - q2 = k7 at n7 v0
  generalize dd + fl - x0 - x1 - x2 = k8 at n8 v0
  have z6 : τ 0 6 = σ 0 6 + s / 10 := by rw [v0, upd_ne (show 6 ≠ 8 by decide), upd_ne (show 6 ≠ 7 by decide)]; exact if_pos rfl
  have z7 : τ 0 7 = σ 0 7 + k7 := by rw [v0, upd_ne (show 7 ≠ 8 by decide)]; exact if_pos rfl
  have z8 : τ 0 8 = σ 0 8 + k8 := by rw [v0]; exact if_pos rfl
  have zq : ∀ i, i ≠ 6 → i ≠ 7 → i ≠ 8 → τ 0 i = σ 0 i := fun i h1 h2 h3 => by rw [v0, upd_ne h3, upd_ne h2, upd_ne h1]
  have m6 : (σ 0 6 + s / 10).toInt = (σ 0 6).toInt + s.toInt / 10 := by rw [ti_add (by omega) (by omega), hc]
  have m7 : (σ 0 7 + k7).toInt = (σ 0 7).toInt + k7.toInt := ti_add (by omega) (by omega)
  have m8 : (σ 0 8 + k8).toInt = (σ 0 8).toInt + k8.toInt := ti_add (by omega) (by omega)
  have fam : ∀ {j : Nat} {u v : Int32}, τ (22 + j) = upd (upd (upd (σ (22 + j)) 1 (σ (22 + j) 1 + u)) 2 (σ (22 + j) 2 + v)) 4 (σ (22 + j) 4 + u) → τ (22 + j) 1 = σ (22 + j) 1 + u ∧ τ (22 + j) 2 = σ (22 + j) 2 + v ∧ τ (22 + j) 5 = σ (22 + j) 5 := fun hh => by
    rw [hh]
    refine ⟨?_, ?_, ?_⟩
    · rw [upd_ne (show 1 ≠ 4 by decide), upd_ne (show 1 ≠ 2 by decide)]; exact if_pos rfl
    · rw [upd_ne (show 2 ≠ 4 by decide)]; exact if_pos rfl
    · rw [upd_ne (show 5 ≠ 4 by decide), upd_ne (show 5 ≠ 2 by decide), upd_ne (show 5 ≠ 1 by decide)]
  have A0 := fam J0
  have A1 := fam J1
  have A2 := fam J2
  have b01 : (σ (22 + 0) 1 + q0).toInt = (σ (22 + 0) 1).toInt + q0.toInt := ti_add (by omega) (by omega)
  have b11 : (σ (22 + 1) 1 + q1).toInt = (σ (22 + 1) 1).toInt + q1.toInt := ti_add (by omega) (by omega)
  have b21 : (σ (22 + 2) 1 + q2).toInt = (σ (22 + 2) 1).toInt + q2.toInt := ti_add (by omega) (by omega)
  have b02 : (σ (22 + 0) 2 + x0).toInt = (σ (22 + 0) 2).toInt + x0.toInt := ti_add (by omega) (by omega)
  have b12 : (σ (22 + 1) 2 + x1).toInt = (σ (22 + 1) 2).toInt + x1.toInt := ti_add (by omega) (by omega)
  have b22 : (σ (22 + 2) 2 + x2).toInt = (σ (22 + 2) 2).toInt + x2.toInt := ti_add (by omega) (by omega)
  have T1 : F3 1 τ = (σ (22 + 0) 1 + q0).toInt + (σ (22 + 1) 1 + q1).toInt + (σ (22 + 2) 1 + q2).toInt := by unfold F3; rw [A0.1, A1.1, A2.1]
  have T2 : F3 2 τ = (σ (22 + 0) 2 + x0).toInt + (σ (22 + 1) 2 + x1).toInt + (σ (22 + 2) 2 + x2).toInt := by unfold F3; rw [A0.2.1, A1.2.1, A2.2.1]
  have hM : gM σ τ := fun i h1 h2 => by
    rcases (show i = 4 ∨ i = 5 ∨ i = 6 ∨ i = 7 ∨ i = 8 by omega) with rfl | rfl | rfl | rfl | rfl
    · rw [zq 4 (by decide) (by decide) (by decide)]; exact Int.le_refl _
    · rw [zq 5 (by decide) (by decide) (by decide)]; exact Int.le_refl _
    · rw [z6, m6]; omega
    · rw [z7, m7]; omega
    · rw [z8, m8]; omega
  have l6 : (σ (5 + 8 * 0 + (5 + q)) 6 - s).toInt = (σ (5 + 8 * 0 + (5 + q)) 6).toInt - s.toInt := ti_sub (by omega) (by omega)
  have l7 : (σ (5 + 8 * 0 + (5 + q)) 7 - dd).toInt = (σ (5 + 8 * 0 + (5 + q)) 7).toInt - dd.toInt := ti_sub (by omega) (by omega)
  have ed : τ (1 + 0) 1 = σ (1 + 0) 1 := by rw [vo (1 + 0) (by omega) (by omega) (Or.inl (by omega))]
  have W1 : w1 (upd (upd (upd (σ (5 + 8 * 0 + (5 + q))) 6 (σ (5 + 8 * 0 + (5 + q)) 6 - s)) 7 (σ (5 + 8 * 0 + (5 + q)) 7 - dd)) 11 1) = w1 (σ (5 + 8 * 0 + (5 + q))) := rfl
  have W2 : w2 (upd (upd (upd (σ (5 + 8 * 0 + (5 + q))) 6 (σ (5 + 8 * 0 + (5 + q)) 6 - s)) 7 (σ (5 + 8 * 0 + (5 + q)) 7 - dd)) 11 1) = (σ (5 + 8 * 0 + (5 + q)) 2).toInt + (σ (5 + 8 * 0 + (5 + q)) 6 - s).toInt := rfl
  have W3 : w3 (upd (upd (upd (σ (5 + 8 * 0 + (5 + q))) 6 (σ (5 + 8 * 0 + (5 + q)) 6 - s)) 7 (σ (5 + 8 * 0 + (5 + q)) 7 - dd)) 11 1) = (σ (5 + 8 * 0 + (5 + q)) 3).toInt + (σ (5 + 8 * 0 + (5 + q)) 4).toInt + (σ (5 + 8 * 0 + (5 + q)) 7 - dd).toInt := rfl
  refine ⟨gI_mk (C3 := B3 + 90) (k := 5 + q) (g := upd (upd (upd (σ (5 + 8 * 0 + (5 + q))) 6 (σ (5 + 8 * 0 + (5 + q)) 6 - s)) 7 (σ (5 + 8 * 0 + (5 + q)) 7 - dd)) 11 1) h hk (fun j hj => ?_) ⟨a1, a9, f1, f2, f3, f4, f5, by show 0 ≤ (σ (5 + 8 * 0 + (5 + q)) 6 - s).toInt; omega, by show 0 ≤ (σ (5 + 8 * 0 + (5 + q)) 7 - dd).toInt; omega, f10⟩ (b (5 + q) hk) ⟨(bZ_of.mp c (5 + q) hk).1, (bZ_of.mp c (5 + q) hk).2.1, Or.inr rfl⟩ ed (zq 3 (by decide) (by decide) (by decide)) (fun j hj => vo _ (by omega) (by omega) (Or.inr (by omega))) (fun j hj => ?_) hM ?_ ?_ ?_, hM, ed⟩
  · by_cases ej : j = 5 + q
    · subst ej; rw [vp, va_up_self]
    · rw [va_up_ne _ _ (by omega), vo _ (by omega) (by omega) (Or.inl (by omega))]
  · rcases (show j = 0 ∨ j = 1 ∨ j = 2 by omega) with rfl | rfl | rfl
    · rw [A0.1, A0.2.1, A0.2.2]; exact ⟨by omega, by omega, k0.2.2⟩
    · rw [A1.1, A1.2.1, A1.2.2]; exact ⟨by omega, by omega, k1.2.2⟩
    · rw [A2.1, A2.2.1, A2.2.2]; exact ⟨by omega, by omega, k2.2.2⟩
  · rw [W1, zq 4 (by decide) (by decide) (by decide)]; exact Int.le_refl _
  · rw [W2, T1, zq 5 (by decide) (by decide) (by decide), z6, z7, m6, m7, y2]; omega
  · rw [W3, T2, z8, m8, y3]; omega
theorem rs_3 {σ : sS} {q : Nat} : f_X3_rightsIn σ q 3 = 0 + σ (28 + 0) q + σ (28 + 1) q + σ (28 + 2) q := rfl
/-- a right that is not more than it was -/
theorem gI_right {B1 B2 B3 : Int} {σ : sS} {j q : Nat} {x : Int32} (h : gI B1 B2 B3 σ) (hj : j < 3) (hq : q < 3) (hx0 : 0 ≤ x.toInt) (hx : x.toInt ≤ (σ (28 + j) q).toInt) : gI B1 B2 B3 (va_up σ (28 + j) (upd (σ (28 + j)) q x)) ∧ gM σ (va_up σ (28 + j) (upd (σ (28 + j)) q x)) ∧ (va_up σ (28 + j) (upd (σ (28 + j)) q x) : sS) (1 + 0) 1 = σ (1 + 0) 1 ∧ f_X3_rightsIn σ q 3 - σ (28 + j) q + x ≤ 12 := by
  have h' := h
  obtain ⟨a, b, c, d, e, f, g, r, o, t1, t2, t3⟩ := h'
  have g0 := g 0 (by decide) q hq
  have g1 := g 1 (by decide) q hq
  have g2 := g 2 (by decide) q hq
  have hr := r q hq
  have e0 : ∀ i, i ≠ 28 + j → (va_up σ (28 + j) (upd (σ (28 + j)) q x) : sS) i = σ i := fun i hi => va_up_ne _ _ hi
  have ej : (va_up σ (28 + j) (upd (σ (28 + j)) q x) : sS) (28 + j) = upd (σ (28 + j)) q x := va_up_self _ _ _
  generalize (va_up σ (28 + j) (upd (σ (28 + j)) q x) : sS) = τ at e0 ej ⊢
  have eS : ∀ w : (Nat → Int32) → Int, S8 w τ = S8 w σ := fun w => S8_out (fun i hi => e0 _ (by omega))
  have z : ∀ i, i < 28 → τ i = σ i := fun i hi => e0 i (by omega)
  have val : ∀ i, i < 3 → ∀ k, τ (28 + i) k = if i = j ∧ k = q then x else σ (28 + i) k := fun i hi k => by
    by_cases ei : i = j
    · subst ei
      rw [ej]
      by_cases ek : k = q
      · subst ek; rw [if_pos ⟨rfl, rfl⟩]; exact if_pos rfl
      · rw [if_neg (fun hh => ek hh.2), upd_ne ek]
    · rw [if_neg (fun hh => ei hh.1), e0 _ (by omega)]
  refine ⟨⟨rI_out a (fun i hi => z _ (by omega)), fun k hk => by rw [z _ (by omega)]; exact b k hk, sZ_out c (fun i hi => z _ (by omega)), by rw [z _ (by omega)]; exact d, by rw [z _ (by omega)]; exact e, fun i hi => by rw [z _ (by omega)]; exact f i hi, fun i hi k hk => ?_, fun k hk => ?_, fun k h1 h2 => by rw [z _ (by omega)]; exact o k h1 h2, by rw [eS, z 0 (by omega)]; exact t1, ?_, ?_⟩, fun k h1 h2 => by rw [z 0 (by omega)]; exact Int.le_refl _, by rw [z _ (by omega)], ?_⟩
  · rw [val i hi k]
    split
    · exact hx0
    · exact g i hi k hk
  · rw [val 0 (by decide) k, val 1 (by decide) k, val 2 (by decide) k]
    have hrk := r k hk
    by_cases ek : k = q
    · subst ek
      rcases (show j = 0 ∨ j = 1 ∨ j = 2 by omega) with rfl | rfl | rfl
      · rw [if_pos ⟨rfl, rfl⟩, if_neg (fun hh => absurd hh.1 (by decide)), if_neg (fun hh => absurd hh.1 (by decide))]; omega
      · rw [if_neg (fun hh => absurd hh.1 (by decide)), if_pos ⟨rfl, rfl⟩, if_neg (fun hh => absurd hh.1 (by decide))]; omega
      · rw [if_neg (fun hh => absurd hh.1 (by decide)), if_neg (fun hh => absurd hh.1 (by decide)), if_pos ⟨rfl, rfl⟩]; omega
    · rw [if_neg (fun hh => ek hh.2), if_neg (fun hh => ek hh.2), if_neg (fun hh => ek hh.2)]; exact hrk
  · have eF : F3 1 τ = F3 1 σ := by unfold F3; rw [z (22 + 0) (by omega), z (22 + 1) (by omega), z (22 + 2) (by omega)]
    rw [eS, eF, z 0 (by omega)]; exact t2
  · have eF : F3 2 τ = F3 2 σ := by unfold F3; rw [z (22 + 0) (by omega), z (22 + 1) (by omega), z (22 + 2) (by omega)]
    rw [eS, eF, z 0 (by omega)]; exact t3
  · rw [rs_3, Int32.zero_add]
    have n1 : (σ (28 + 0) q + σ (28 + 1) q).toInt = (σ (28 + 0) q).toInt + (σ (28 + 1) q).toInt := ti_add (by omega) (by omega)
    have n2 : (σ (28 + 0) q + σ (28 + 1) q + σ (28 + 2) q).toInt = (σ (28 + 0) q).toInt + (σ (28 + 1) q).toInt + (σ (28 + 2) q).toInt := by rw [ti_add (by omega) (by omega), n1]
    have hjr : (σ (28 + j) q).toInt ≤ 12 := by rcases (show j = 0 ∨ j = 1 ∨ j = 2 by omega) with rfl | rfl | rfl <;> omega
    have hj0 := g j hj q hq
    have n3 : (σ (28 + 0) q + σ (28 + 1) q + σ (28 + 2) q - σ (28 + j) q).toInt = (σ (28 + 0) q).toInt + (σ (28 + 1) q).toInt + (σ (28 + 2) q).toInt - (σ (28 + j) q).toInt := by rw [ti_sub (by omega) (by omega), n2]
    rw [ti_le, ti_add (by omega) (by omega), n3, show (12 : Int32).toInt = 12 from rfl]
    omega
/-! What would be: of row 0 and the object alone. -/
theorem cp_in {i : Nat} (h : ¬ sO 1 i) : i = 2 ∨ ∃ j, j < 8 ∧ i = 5 + 8 * 1 + j := by
  by_cases e : i = 2
  · exact Or.inl e
  · exact Or.inr ⟨i - 13, by
      have : ¬ (i < 13 ∨ 21 ≤ i) := fun q => h ⟨e, q⟩
      omega, by
      have : ¬ (i < 13 ∨ 21 ≤ i) := fun q => h ⟨e, q⟩
      omega⟩
theorem cpx_out {i : Nat} : ∀ (n k : Nat) (σ : sS), i < 13 + k → f_X2_cp n k σ i = σ i
  | 0, _, _, _ => rfl
  | n + 1, k, σ, h => (cpx_out n (k + 1) _ (by omega)).trans (va_up_ne _ _ (by omega))
theorem cpx_at {j : Nat} (hj : j < 8) : ∀ (n k : Nat) (σ : sS), k ≤ j → j < k + n → f_X2_cp n k σ (5 + 8 * 1 + j) = σ (5 + 8 * 0 + j)
  | 0, k, _, h1, h2 => absurd h2 (by omega)
  | n + 1, k, σ, h1, h2 => by
    show f_X2_cp n (k + 1) (va_up σ (5 + 8 * 1 + k) (σ (5 + 8 * 0 + k))) (5 + 8 * 1 + j) = _
    by_cases e : j = k
    · subst e
      rw [cpx_out n (j + 1) _ (by omega), va_up_self]
    · rw [cpx_at hj n (k + 1) _ (by omega) (by omega), va_up_ne _ _ (by omega)]
/-- but for the row that is kept for trying -/
def oE (σ τ : sS) : Prop := ∀ i, sO 1 i → τ i = σ i
theorem copy_ext {σ τ : sS} (h : oE σ τ) : f_X2_copyFrom τ = f_X2_copyFrom σ := by
  funext i
  by_cases hi : sO 1 i
  · rw [k_copy hi, k_copy hi, h i hi]
  · rcases cp_in hi with rfl | ⟨j, hj, rfl⟩
    · unfold f_X2_copyFrom
      rw [cpx_out 8 0 _ (by omega), cpx_out 8 0 _ (by omega), va_up_self, va_up_self, h 1 ⟨by decide, Or.inl (by decide)⟩]
    · unfold f_X2_copyFrom
      rw [cpx_at hj 8 0 _ (by omega) (by omega), cpx_at hj 8 0 _ (by omega) (by omega), va_up_ne _ _ (by omega), va_up_ne _ _ (by omega), h _ ⟨by omega, Or.inl (by omega)⟩]
theorem oE_gsum {σ τ : sS} (h : oE σ τ) : ∀ (n k : Nat) (v : Int32), k + n ≤ 8 → f_X2_gsum 0 τ n k v = f_X2_gsum 0 σ n k v
  | 0, _, _, _ => rfl
  | n + 1, k, v, hk => by
    show f_X2_gsum 0 τ n (k + 1) (v + f_gbit (τ (5 + 8 * 0 + k) 9) k) = f_X2_gsum 0 σ n (k + 1) (v + f_gbit (σ (5 + 8 * 0 + k) 9) k)
    rw [h _ ⟨by omega, Or.inl (by omega)⟩]
    exact oE_gsum h n (k + 1) _ (by omega)
theorem oE_csum {σ τ : sS} (h : oE σ τ) : ∀ (n k : Nat) (v : Int32), k + n ≤ 8 → f_X2_csum 0 τ n k v = f_X2_csum 0 σ n k v
  | 0, _, _, _ => rfl
  | n + 1, k, v, hk => by
    show f_X2_csum 0 τ n (k + 1) (v + f_gbit (τ (5 + 8 * 0 + k) 10) k) = f_X2_csum 0 σ n (k + 1) (v + f_gbit (σ (5 + 8 * 0 + k) 10) k)
    rw [h _ ⟨by omega, Or.inl (by omega)⟩]
    exact oE_csum h n (k + 1) _ (by omega)
theorem oE_psum {σ τ : sS} (h : oE σ τ) {w : Nat} : ∀ (n k : Nat) (v : Int32), k + n ≤ 8 → f_X2_psum w 0 τ n k v = f_X2_psum w 0 σ n k v
  | 0, _, _, _ => rfl
  | n + 1, k, v, hk => by
    show f_X2_psum w 0 τ n (k + 1) (v + f_X1_read (τ (5 + 8 * 0 + k)) w) = f_X2_psum w 0 σ n (k + 1) (v + f_X1_read (σ (5 + 8 * 0 + k)) w)
    rw [h _ ⟨by omega, Or.inl (by omega)⟩]
    exact oE_psum h n (k + 1) _ (by omega)
theorem oE_hsum {σ τ : sS} (h : oE σ τ) {w : Nat} : ∀ (n k : Nat) (v : Int32), f_X3_hsum w τ n k v = f_X3_hsum w σ n k v
  | 0, _, _ => rfl
  | n + 1, k, v => by
    show f_X3_hsum w τ n (k + 1) (v + f_X0_read (τ (22 + k)) w) = f_X3_hsum w σ n (k + 1) (v + f_X0_read (σ (22 + k)) w)
    rw [h _ ⟨by omega, Or.inr (by omega)⟩]
    exact oE_hsum h n (k + 1) _
theorem oE_many {σ τ : sS} (h : oE σ τ) {fc k : Nat} : f_X3_many τ fc k = f_X3_many σ fc k := by
  have z0 : τ 0 = σ 0 := h 0 ⟨by decide, Or.inl (by decide)⟩
  have z1 : τ (1 + 0) = σ (1 + 0) := h 1 ⟨by decide, Or.inl (by decide)⟩
  match k with
  | 0 => show τ (1 + 0) 1 = σ (1 + 0) 1; rw [z1]
  | 1 => show τ 0 3 = σ 0 3; rw [z0]
  | 2 => exact oE_gsum h 8 0 0 (by decide)
  | 3 => exact oE_csum h 8 0 0 (by decide)
  | 4 => show τ (1 + 0) 4 = σ (1 + 0) 4; rw [z1]
  | 5 => exact oE_psum h 8 0 0 (by decide)
  | 6 => exact oE_psum h 8 0 0 (by decide)
  | 7 => exact oE_hsum h fc 0 0
  | 8 => exact oE_hsum h fc 0 0
  | 9 => show τ 0 5 = σ 0 5; rw [z0]
  | 10 => show τ 0 6 = σ 0 6; rw [z0]
  | 11 => show τ 0 7 = σ 0 7; rw [z0]
  | 12 => exact oE_psum h 8 0 0 (by decide)
  | 13 => show τ 0 8 = σ 0 8; rw [z0]
  | 14 => exact oE_psum h 8 0 0 (by decide)
  | 15 => exact oE_psum h 8 0 0 (by decide)
  | 16 => show τ 0 4 = σ 0 4; rw [z0]
  | k + 17 => show τ 0 9 = σ 0 9; rw [z0]
theorem oE_dgM {σ τ : sS} (h : oE σ τ) {fc : Nat} : ∀ (n k : Nat) (d : Int64), f_dgM τ fc n k d = f_dgM σ fc n k d
  | 0, _, _ => rfl
  | n + 1, k, d => by
    show f_dgM τ fc n (k + 1) (d * 31 + (f_X3_many τ fc k).toInt64) = f_dgM σ fc n (k + 1) (d * 31 + (f_X3_many σ fc k).toInt64)
    rw [oE_many h]
    exact oE_dgM h n (k + 1) _
theorem oE_dgP {σ τ : sS} (h : oE σ τ) : ∀ (n k : Nat) (d : Int64), k + n ≤ 8 → f_dgP τ n k d = f_dgP σ n k d
  | 0, _, _, _ => rfl
  | n + 1, k, d, hk => by
    show f_dgP τ n (k + 1) (f_dgR (τ (5 + 8 * 0 + k)) 11 0 d) = f_dgP σ n (k + 1) (f_dgR (σ (5 + 8 * 0 + k)) 11 0 d)
    rw [h _ ⟨by omega, Or.inl (by omega)⟩]
    exact oE_dgP h n (k + 1) _ (by omega)
theorem oE_dgA {σ τ : sS} (h : oE σ τ) {j : Nat} : ∀ (n k : Nat) (d : Int64), f_dgA τ j n k d = f_dgA σ j n k d
  | 0, _, _ => rfl
  | n + 1, k, d => by
    show f_dgA τ j n (k + 1) (d * 31 + (f_X0_read (τ (22 + j)) k).toInt64) = f_dgA σ j n (k + 1) (d * 31 + (f_X0_read (σ (22 + j)) k).toInt64)
    rw [h _ ⟨by omega, Or.inr (by omega)⟩]
    exact oE_dgA h n (k + 1) _
theorem oE_dgB {σ τ : sS} (h : oE σ τ) {j : Nat} : ∀ (n k : Nat) (d : Int64), f_dgB τ j n k d = f_dgB σ j n k d
  | 0, _, _ => rfl
  | n + 1, k, d => by
    show f_dgB τ j n (k + 1) (d * 31 + (τ (28 + j) k).toInt64) = f_dgB σ j n (k + 1) (d * 31 + (σ (28 + j) k).toInt64)
    rw [h _ ⟨by omega, Or.inr (by omega)⟩]
    exact oE_dgB h n (k + 1) _
theorem oE_dgF {σ τ : sS} (h : oE σ τ) : ∀ (n k : Nat) (d : Int64), f_dgF τ n k d = f_dgF σ n k d
  | 0, _, _ => rfl
  | n + 1, k, d => by
    show f_dgF τ n (k + 1) (f_dgB τ k 3 0 (f_dgA τ k 6 0 d)) = f_dgF σ n (k + 1) (f_dgB σ k 3 0 (f_dgA σ k 6 0 d))
    rw [oE_dgB h, oE_dgA h]
    exact oE_dgF h n (k + 1) _
/-- the checksum asks row 0 and the object alone -/
theorem oE_digest {σ τ : sS} (h : oE σ τ) {fc : Nat} : f_X3_digest τ fc = f_X3_digest σ fc := by
  have c := copy_ext h
  have e1 : f_X3_crustIn τ 0 7 3 = f_X3_crustIn σ 0 7 3 := by unfold f_X3_crustIn; rw [c]
  have e2 : f_X3_crustInV τ 0 7 3 = f_X3_crustInV σ 0 7 3 := by unfold f_X3_crustInV; rw [c]
  have eS : f_dgS 3 0 τ = f_dgS 3 0 σ := by
    show f_dgS 2 1 (f_X3_crustIn τ 0 7 3) = f_dgS 2 1 (f_X3_crustIn σ 0 7 3)
    rw [e1]
  have eC : ∀ d, f_dgC 3 0 τ d = f_dgC 3 0 σ d := fun d => by
    show f_dgC 2 1 (f_X3_crustIn τ 0 7 3) (d * 31 + (f_X3_crustInV τ 0 7 3).toInt64) = f_dgC 2 1 (f_X3_crustIn σ 0 7 3) (d * 31 + (f_X3_crustInV σ 0 7 3).toInt64)
    rw [e1, e2]
  unfold f_X3_digest f_X3_digestS
  rw [eS, eC, oE_dgF h, oE_dgP h 8 0 _ (by decide), oE_dgM h]
theorem oE_trans {σ τ υ : sS} (h1 : oE σ τ) (h2 : oE τ υ) : oE σ υ := fun i hi => (h2 i hi).trans (h1 i hi)
theorem oE_digS {σ : sS} : oE σ (f_X3_digestS σ) := fun i hi => by
  unfold f_X3_digestS
  rw [k_bestS hi, k_dgS hi]
theorem oE_best {σ : sS} {d : Nat} {x y : Int32} : oE σ (f_X3_bestS d x y 256 0 σ) := fun i hi => k_bestS hi 256 0 σ
theorem oE_crust {σ : sS} {q : Nat} {x y : Int32} : oE σ (f_X3_crustIn σ q x y) := fun i hi => k_crustIn hi
/-- the best gates are a set of the eight -/
theorem best_lt {d : Nat} {x y : Int32} : ∀ (n k : Nat) (σ : sS) (b m : Int32), k + n ≤ 256 → b < 256 → f_X3_bestB d x y n k σ b m < 256
  | 0, _, _, _, _, _, hb => hb
  | n + 1, k, σ, b, m, hk, hb => by
    show f_X3_bestB d x y n (k + 1) (f_X3_withS σ k d x y) (if f_X3_withV σ k d x y ≤ m then b else nI k) _ < 256
    refine best_lt n (k + 1) _ _ _ (by omega) ?_
    split
    · exact hb
    · rw [ti_lt, nI_toInt (by omega), show (256 : Int32).toInt = 256 from rfl]; omega
theorem crust_ge {q : Nat} {x y : Int32} : ∀ (n k : Nat) (σ : sS), k + n ≤ 1000 → -1 ≤ f_X3_crustV q x y n k σ
  | 0, _, _, _ => by show (-1 : Int32) ≤ -1; decide
  | n + 1, k, σ, hk => by
    show -1 ≤ (if f_X2_letDayGoBy σ 1 x y 0 (5 + 8 * 1 + (5 + q)) 8 ≤ 0 then f_X3_crustV q x y n (k + 1) (f_X2_letDayGoBy σ 1 x y 0) else nI k)
    split
    · exact crust_ge n (k + 1) _ (by omega)
    · rw [ti_le, nI_toInt (by omega), show (-1 : Int32).toInt = -1 from rfl]; omega
/-! The law's own numbers. -/
theorem and_pos (x : Int32) : 0 ≤ (x &&& 2147483647).toInt := by
  have h : (x &&& 2147483647).toBitVec.msb = false := by
    rw [Int32.toBitVec_and, BitVec.msb_and]
    have : (2147483647 : Int32).toBitVec.msb = false := by decide
    rw [this, Bool.and_false]
  show 0 ≤ (x &&& 2147483647).toBitVec.toInt
  rw [BitVec.toInt_eq_msb_cond, h]
  simp
def f_below (x n : Int32) : Int32 := f_rem (x &&& 2147483647) n
theorem bw_in {x n : Int32} (hn : 1 ≤ n.toInt) : 0 ≤ (f_below x n).toInt ∧ (f_below x n).toInt < n.toInt := by
  have hp := and_pos x
  have hh := ti_hi (x &&& 2147483647)
  unfold f_below
  generalize (x &&& 2147483647) = y at hp hh ⊢
  have a1 : (y / n).toInt = y.toInt / n.toInt := ti_div hp (by omega)
  have m1 := Int.ediv_mul_le y.toInt (b := n.toInt) (by omega)
  have m0 : 0 ≤ y.toInt / n.toInt := Int.ediv_nonneg hp (by omega)
  have m2 : y.toInt < (y.toInt / n.toInt + 1) * n.toInt := Int.lt_ediv_add_one_mul_self _ (by omega)
  have m3 : 0 ≤ y.toInt / n.toInt * n.toInt := Int.mul_nonneg m0 (by omega)
  have a2 : (y / n * n).toInt = y.toInt / n.toInt * n.toInt := by rw [ti_mul (by rw [a1]; omega) (by rw [a1]; omega), a1]
  show 0 ≤ (y - y / n * n).toInt ∧ (y - y / n * n).toInt < n.toInt
  rw [ti_sub (by omega) (by omega), a2]
  rw [Int.add_mul, Int.one_mul] at m2
  omega
/-! While the row is written: no amounts, no families but those that came. -/
abbrev pW (f : Nat → Int32) : Prop := 1 ≤ (f 0).toInt ∧ (f 0).toInt ≤ 9 ∧ (∀ q, 1 ≤ q → q < 9 → f q = 0) ∧ (f 9 = 0 ∨ f 9 = 1) ∧ f 10 = 0 ∧ f 11 = 0
def vI (fc : Nat) (σ : sS) : Prop := (∀ k, k < 8 → pW (σ (5 + 8 * 0 + k))) ∧ (∀ q, σ (1 + 0) q = 0) ∧ σ 0 3 = nI fc ∧ (∀ q, q ≠ 3 → σ 0 q = 0) ∧ (∀ j, j < 6 → ∀ q, σ (22 + j) q = 0) ∧ (∀ j, j < 6 → ∀ q, q < 3 → 0 ≤ (σ (28 + j) q).toInt ∧ (σ (28 + j) q).toInt ≤ 4 ∧ (fc ≤ j → σ (28 + j) q = 0))
theorem vI_new : vI 0 f_new := by
  have z : ∀ i q, i < 5 ∨ 21 ≤ i → f_new i q = 0 := fun i q hi => by
    unfold f_new
    rw [if_neg (by omega)]
  refine ⟨fun k hk => ?_, fun q => z _ _ (by omega), z _ _ (by omega), fun q _ => z _ _ (by omega), fun j hj q => z _ _ (by omega), fun j hj q hq => ?_⟩
  · have e : f_new (5 + 8 * 0 + k) 0 = 3 := by unfold f_new; rw [if_pos (by omega)]
    have n : ∀ q, q ≠ 0 → f_new (5 + 8 * 0 + k) q = 0 := fun q hq => by unfold f_new; rw [if_neg (by omega)]
    exact ⟨by rw [e]; decide, by rw [e]; decide, fun q h1 h2 => n q (by omega), Or.inl (n 9 (by decide)), n 10 (by decide), n 11 (by decide)⟩
  · rw [z _ _ (by omega)]
    exact ⟨by decide, by decide, fun _ => rfl⟩
theorem vI_pond {fc : Nat} {σ : sS} {k : Nat} {g : Nat → Int32} (h : vI fc σ) (hk : k < 8) (hg : pW g) : vI fc (va_up σ (5 + 8 * 0 + k) g) := by
  obtain ⟨a, b, c, d, e, f⟩ := h
  have n : ∀ i, i < 5 ∨ 21 ≤ i → (va_up σ (5 + 8 * 0 + k) g : sS) i = σ i := fun i hi => va_up_ne _ _ (by omega)
  refine ⟨fun j hj => ?_, fun q => by rw [n _ (by omega)]; exact b q, by rw [n _ (by omega)]; exact c, fun q hq => by rw [n _ (by omega)]; exact d q hq, fun j hj q => by rw [n _ (by omega)]; exact e j hj q, fun j hj q hq => by rw [n _ (by omega)]; exact f j hj q hq⟩
  by_cases ej : j = k
  · subst ej; rw [va_up_self]; exact hg
  · rw [va_up_ne _ _ (by omega)]; exact a j hj
theorem vI_area {fc : Nat} {σ : sS} {k : Nat} {x : Int32} (h : vI fc σ) (hk : k < 8) (h1 : 1 ≤ x.toInt) (h9 : x.toInt ≤ 9) : vI fc (va_up σ (5 + 8 * 0 + k) (upd (σ (5 + 8 * 0 + k)) 0 x)) := by
  obtain ⟨a1, a9, z, b, c, d⟩ := h.1 k hk
  exact vI_pond h hk ⟨h1, h9, fun q g1 g2 => by rw [upd_ne (by omega)]; exact z q g1 g2, b, c, d⟩
theorem vI_gate {fc : Nat} {σ : sS} {k : Nat} {x : Int32} (h : vI fc σ) (hk : k < 8) (hx : x = 0 ∨ x = 1) : vI fc (va_up σ (5 + 8 * 0 + k) (upd (σ (5 + 8 * 0 + k)) 9 x)) := by
  obtain ⟨a1, a9, z, b, c, d⟩ := h.1 k hk
  exact vI_pond h hk ⟨a1, a9, fun q g1 g2 => by rw [upd_ne (by omega)]; exact z q g1 g2, hx, c, d⟩
theorem vI_family {fc : Nat} {σ : sS} (h : vI fc σ) (hf : fc < 6) : vI (fc + 1) (va_up σ 0 (upd (σ 0) 3 (σ 0 3 + 1))) := by
  obtain ⟨a, b, c, d, e, f⟩ := h
  have n : ∀ i, i ≠ 0 → (va_up σ 0 (upd (σ 0) 3 (σ 0 3 + 1)) : sS) i = σ i := fun i hi => va_up_ne _ _ hi
  refine ⟨fun j hj => by rw [n _ (by omega)]; exact a j hj, fun q => by rw [n _ (by omega)]; exact b q, ?_, fun q hq => by rw [va_up_self, upd_ne hq]; exact d q hq, fun j hj q => by rw [n _ (by omega)]; exact e j hj q, fun j hj q hq => by rw [n _ (by omega)]; exact ⟨(f j hj q hq).1, (f j hj q hq).2.1, fun hh => (f j hj q hq).2.2 (by omega)⟩⟩
  rw [va_up_self]
  show (if 3 = 3 then σ 0 3 + 1 else σ 0 3) = _
  rw [if_pos rfl, c]
  exact nI_1 fc
theorem vI_right {fc : Nat} {σ : sS} {j q : Nat} {x : Int32} (h : vI fc σ) (hj : j < fc) (hfc : fc ≤ 6) (hq : q < 3) (h0 : 0 ≤ x.toInt) (h4 : x.toInt ≤ 4) : vI fc (va_up σ (28 + j) (upd (σ (28 + j)) q x)) := by
  obtain ⟨a, b, c, d, e, f⟩ := h
  have n : ∀ i, i ≠ 28 + j → (va_up σ (28 + j) (upd (σ (28 + j)) q x) : sS) i = σ i := fun i hi => va_up_ne _ _ hi
  refine ⟨fun k hk => by rw [n _ (by omega)]; exact a k hk, fun k => by rw [n _ (by omega)]; exact b k, by rw [n _ (by omega)]; exact c, fun k hk => by rw [n _ (by omega)]; exact d k hk, fun k hk p => by rw [n _ (by omega)]; exact e k hk p, fun k hk p hp => ?_⟩
  by_cases ek : k = j
  · subst ek
    rw [va_up_self]
    by_cases ep : p = q
    · subst ep
      show 0 ≤ (if p = p then x else _).toInt ∧ (if p = p then x else _).toInt ≤ 4 ∧ _
      rw [if_pos rfl]
      exact ⟨h0, h4, fun hh => absurd hh (by omega)⟩
    · rw [upd_ne ep]
      exact f k hk p hp
  · rw [n _ (by omega)]
    exact f k hk p hp
/-- twelfths that are asked for fit -/
theorem vI_fit {fc : Nat} {σ : sS} {j q : Nat} {x : Int32} (h : vI fc σ) (hj : j < fc) (hfc : fc ≤ 3) (hq : q < 3) (h0 : 0 ≤ x.toInt) (h4 : x.toInt ≤ 4) : f_X3_rightsIn σ q fc - σ (28 + j) q + x ≤ 12 := by
  obtain ⟨-, -, -, -, -, f⟩ := h
  have f0 := f 0 (by decide) q hq
  have f1 := f 1 (by decide) q hq
  have f2 := f 2 (by decide) q hq
  have z0 : (0 : Int32).toInt = 0 := rfl
  have e12 : (12 : Int32).toInt = 12 := rfl
  rcases (show fc = 1 ∨ fc = 2 ∨ fc = 3 by omega) with rfl | rfl | rfl
  · have e : f_X3_rightsIn σ q 1 = σ (28 + 0) q := Int32.zero_add _
    rw [e, show j = 0 by omega, ti_le, ti_add (by rw [ti_sub (by omega) (by omega)]; omega) (by rw [ti_sub (by omega) (by omega)]; omega), ti_sub (by omega) (by omega), e12]
    omega
  · have e : f_X3_rightsIn σ q 2 = 0 + σ (28 + 0) q + σ (28 + 1) q := rfl
    have n1 : (σ (28 + 0) q + σ (28 + 1) q).toInt = (σ (28 + 0) q).toInt + (σ (28 + 1) q).toInt := ti_add (by omega) (by omega)
    have hjr := f j (by omega) q hq
    have hs : (σ (28 + 0) q + σ (28 + 1) q - σ (28 + j) q).toInt = (σ (28 + 0) q).toInt + (σ (28 + 1) q).toInt - (σ (28 + j) q).toInt := by rw [ti_sub (by omega) (by omega), n1]
    rw [e, Int32.zero_add, ti_le, ti_add (by omega) (by omega), hs, e12]
    omega
  · have n1 : (σ (28 + 0) q + σ (28 + 1) q).toInt = (σ (28 + 0) q).toInt + (σ (28 + 1) q).toInt := ti_add (by omega) (by omega)
    have n2 : (σ (28 + 0) q + σ (28 + 1) q + σ (28 + 2) q).toInt = (σ (28 + 0) q).toInt + (σ (28 + 1) q).toInt + (σ (28 + 2) q).toInt := by rw [ti_add (by omega) (by omega), n1]
    have hjr := f j (by omega) q hq
    have hs : (σ (28 + 0) q + σ (28 + 1) q + σ (28 + 2) q - σ (28 + j) q).toInt = (σ (28 + 0) q).toInt + (σ (28 + 1) q).toInt + (σ (28 + 2) q).toInt - (σ (28 + j) q).toInt := by rw [ti_sub (by omega) (by omega), n2]
    rw [rs_3, Int32.zero_add, ti_le, ti_add (by omega) (by omega), hs, e12]
    rcases (show j = 0 ∨ j = 1 ∨ j = 2 by omega) with rfl | rfl | rfl <;> omega
/-- the row that is written, as the law's loop wants it -/
theorem vI_gI {σ : sS} (h : vI 3 σ) : gI 0 0 0 σ := by
  obtain ⟨a, b, c, d, e, f⟩ := h
  have zw : ∀ k, k < 8 → w1 (σ (5 + 8 * 0 + k)) = 0 ∧ w2 (σ (5 + 8 * 0 + k)) = 0 ∧ w3 (σ (5 + 8 * 0 + k)) = 0 := fun k hk => by
    have z := (a k hk).2.2.1
    unfold w1 w2 w3
    rw [z 1 (by decide) (by decide), z 2 (by decide) (by decide), z 3 (by decide) (by decide), z 4 (by decide) (by decide), z 5 (by decide) (by decide), z 6 (by decide) (by decide), z 7 (by decide) (by decide)]
    decide
  have s1 : S8 w1 σ = 0 := by unfold S8; rw [(zw 0 (by omega)).1, (zw 1 (by omega)).1, (zw 2 (by omega)).1, (zw 3 (by omega)).1, (zw 4 (by omega)).1, (zw 5 (by omega)).1, (zw 6 (by omega)).1, (zw 7 (by omega)).1]; rfl
  have s2 : S8 w2 σ = 0 := by unfold S8; rw [(zw 0 (by omega)).2.1, (zw 1 (by omega)).2.1, (zw 2 (by omega)).2.1, (zw 3 (by omega)).2.1, (zw 4 (by omega)).2.1, (zw 5 (by omega)).2.1, (zw 6 (by omega)).2.1, (zw 7 (by omega)).2.1]; rfl
  have s3 : S8 w3 σ = 0 := by unfold S8; rw [(zw 0 (by omega)).2.2, (zw 1 (by omega)).2.2, (zw 2 (by omega)).2.2, (zw 3 (by omega)).2.2, (zw 4 (by omega)).2.2, (zw 5 (by omega)).2.2, (zw 6 (by omega)).2.2, (zw 7 (by omega)).2.2]; rfl
  have F : ∀ q, F3 q σ = 0 := fun q => by unfold F3; rw [e 0 (by decide) q, e 1 (by decide) q, e 2 (by decide) q]; rfl
  have z0 : (0 : Int32).toInt = 0 := rfl
  refine ⟨⟨fun k hk => ?_, by omega⟩, fun k hk => ?_, bZ_of.mpr (fun k hk => ?_), by rw [b 1]; decide, c, fun j hj => by rw [e j (by omega) 1, e j (by omega) 2]; exact ⟨by decide, by decide, e j (by omega) 5⟩, fun j hj q hq => (f j (by omega) q hq).1, fun q hq => by have f0 := f 0 (by decide) q hq; have f1 := f 1 (by decide) q hq; have f2 := f 2 (by decide) q hq; omega, fun q h1 h2 => by rw [d q (by omega)]; decide, by rw [s1, d 4 (by decide)]; decide, by rw [s2, F, d 5 (by decide), d 6 (by decide), d 7 (by decide)]; decide, by rw [s3, F, d 8 (by decide)]; decide⟩
  · obtain ⟨a1, a9, z, b9, c10, d11⟩ := a k hk
    exact ⟨a1, a9, by rw [z 1 (by decide) (by decide)]; decide, by rw [z 2 (by decide) (by decide)]; decide, by rw [z 3 (by decide) (by decide)]; decide, by rw [z 4 (by decide) (by decide)]; decide, by rw [z 5 (by decide) (by decide)]; decide, by rw [z 6 (by decide) (by decide)]; decide, by rw [z 7 (by decide) (by decide)]; decide, c10⟩
  · have z := (a k hk).2.2.1
    unfold pH
    rw [z 1 (by decide) (by decide), z 2 (by decide) (by decide), z 3 (by decide) (by decide), z 4 (by decide) (by decide)]
    decide
  · obtain ⟨a1, a9, z, b9, c10, d11⟩ := a k hk
    exact ⟨b9, Or.inl c10, Or.inl d11⟩
