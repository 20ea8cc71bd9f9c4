/-! Numbers as the machine has them, that stay small. -/
theorem ti_lo (x : Int32) : -2147483648 ≤ x.toInt := Int32.le_toInt x
theorem ti_hi (x : Int32) : x.toInt ≤ 2147483647 := by have := Int32.toInt_lt x; omega
theorem ti_add {x y : Int32} (h1 : -2147483648 ≤ x.toInt + y.toInt) (h2 : x.toInt + y.toInt ≤ 2147483647) : (x + y).toInt = x.toInt + y.toInt := by
  rw [Int32.toInt_add, Int.bmod_eq_of_le (by omega) (by omega)]
theorem ti_sub {x y : Int32} (h1 : -2147483648 ≤ x.toInt - y.toInt) (h2 : x.toInt - y.toInt ≤ 2147483647) : (x - y).toInt = x.toInt - y.toInt := by
  rw [Int32.toInt_sub, Int.bmod_eq_of_le (by omega) (by omega)]
theorem ti_mul {x y : Int32} (h1 : -2147483648 ≤ x.toInt * y.toInt) (h2 : x.toInt * y.toInt ≤ 2147483647) : (x * y).toInt = x.toInt * y.toInt := by
  rw [Int32.toInt_mul, Int.bmod_eq_of_le (by omega) (by omega)]
theorem ti_div {x y : Int32} (h1 : 0 ≤ x.toInt) (h2 : 0 < y.toInt) : (x / y).toInt = x.toInt / y.toInt := by
  have h3 := ti_hi x
  have h4 : x.toInt / y.toInt ≤ x.toInt := Int.ediv_le_self _ h1
  have h5 : 0 ≤ x.toInt / y.toInt := Int.ediv_nonneg h1 (by omega)
  rw [Int32.toInt_div, Int.tdiv_eq_ediv_of_nonneg h1, Int.bmod_eq_of_le (by omega) (by omega)]
theorem tl_lo (x : Int64) : -9223372036854775808 ≤ x.toInt := Int64.le_toInt x
theorem tl_hi (x : Int64) : x.toInt ≤ 9223372036854775807 := by have := Int64.toInt_lt x; omega
theorem tl_add {x y : Int64} (h1 : -9223372036854775808 ≤ x.toInt + y.toInt) (h2 : x.toInt + y.toInt ≤ 9223372036854775807) : (x + y).toInt = x.toInt + y.toInt := by
  rw [Int64.toInt_add, Int.bmod_eq_of_le (by omega) (by omega)]
theorem tl_sub {x y : Int64} (h1 : -9223372036854775808 ≤ x.toInt - y.toInt) (h2 : x.toInt - y.toInt ≤ 9223372036854775807) : (x - y).toInt = x.toInt - y.toInt := by
  rw [Int64.toInt_sub, Int.bmod_eq_of_le (by omega) (by omega)]
theorem tl_mul {x y : Int64} (h1 : -9223372036854775808 ≤ x.toInt * y.toInt) (h2 : x.toInt * y.toInt ≤ 9223372036854775807) : (x * y).toInt = x.toInt * y.toInt := by
  rw [Int64.toInt_mul, Int.bmod_eq_of_le (by omega) (by omega)]
theorem tl_div {x y : Int64} (h1 : 0 ≤ x.toInt) (h2 : 0 < y.toInt) : (x / y).toInt = x.toInt / y.toInt := by
  have h3 := tl_hi x
  have h4 : x.toInt / y.toInt ≤ x.toInt := Int.ediv_le_self _ h1
  have h5 : 0 ≤ x.toInt / y.toInt := Int.ediv_nonneg h1 (by omega)
  rw [Int64.toInt_div, Int.tdiv_eq_ediv_of_nonneg h1, Int.bmod_eq_of_le (by omega) (by omega)]
theorem tl_32 {x : Int64} (h1 : -2147483648 ≤ x.toInt) (h2 : x.toInt ≤ 2147483647) : x.toInt32.toInt = x.toInt := by
  rw [Int64.toInt_toInt32, Int.bmod_eq_of_le (by omega) (by omega)]
theorem tl_of (x : Int32) : x.toInt64.toInt = x.toInt := Int32.toInt_toInt64 x
theorem ti_le {x y : Int32} : x ≤ y ↔ x.toInt ≤ y.toInt := Int32.le_iff_toInt_le
theorem ti_lt {x y : Int32} : x < y ↔ x.toInt < y.toInt := Int32.lt_iff_toInt_lt
theorem tl_le {x y : Int64} : x ≤ y ↔ x.toInt ≤ y.toInt := Int64.le_iff_toInt_le
theorem tl_lt {x y : Int64} : x < y ↔ x.toInt < y.toInt := Int64.lt_iff_toInt_lt
theorem ti_eq {x y : Int32} (h : x.toInt = y.toInt) : x = y := Int32.toInt_inj.mp h
theorem tl_eq {x y : Int64} (h : x.toInt = y.toInt) : x = y := Int64.toInt_inj.mp h
theorem ti_min (x y : Int32) : (f_min x y).toInt = min x.toInt y.toInt := by
  show (if y < x then y else x).toInt = _
  by_cases h : y < x
  · rw [if_pos h]; have := ti_lt.mp h; omega
  · rw [if_neg h]; have := mt ti_lt.mpr h; omega
/-- a product of numbers that are not negative stays in its bounds -/
theorem in_mul {x y X Y : Int} (h1 : 0 ≤ x) (h2 : x ≤ X) (h3 : 0 ≤ y) (h4 : y ≤ Y) : 0 ≤ x * y ∧ x * y ≤ X * Y := ⟨Int.mul_nonneg h1 h3, Int.mul_le_mul h2 h4 h3 (by omega)⟩
theorem tp_pos {x y z : Int32} (hz : 1 ≤ z.toInt) : f_X3_portion x.toInt64 y.toInt64 z.toInt64 = (x.toInt64 * y.toInt64 / z.toInt64).toInt32 := by
  unfold f_X3_portion
  rw [if_pos]
  rw [lg_cmp_ge, tl_le, tl_of]
  exact hz
theorem tp_share {x y z : Int32} (hz : 0 ≤ z.toInt) : f_X3_portion x.toInt64 y.toInt64 z.toInt64 = g_X6_share x y z := by
  unfold g_X6_share
  by_cases h : z = 0
  · rw [if_pos h]
    subst h
    unfold f_X3_portion
    rw [if_neg (by rw [lg_cmp_ge, tl_le]; decide)]
  · rw [if_neg h]
    exact tp_pos (by
      have : z.toInt ≠ 0 := fun e => h (ti_eq e)
      omega)
/-- a share's number -/
theorem tp_val {x y z : Int32} (hx : 0 ≤ x.toInt) (hy : 0 ≤ y.toInt) (hz : 1 ≤ z.toInt) (hb : x.toInt * y.toInt / z.toInt ≤ 2147483647) : (g_X6_share x y z).toInt = x.toInt * y.toInt / z.toInt := by
  have h0 : ¬ z = 0 := fun e => by subst e; exact absurd hz (by decide)
  have hm := in_mul hx (ti_hi x) hy (ti_hi y)
  have e1 : (x.toInt64 * y.toInt64).toInt = x.toInt * y.toInt := by
    rw [tl_mul (by rw [tl_of, tl_of]; omega) (by rw [tl_of, tl_of]; omega), tl_of, tl_of]
  unfold g_X6_share
  rw [if_neg h0, tl_32]
  · rw [tl_div (by rw [e1]; omega) (by rw [tl_of]; omega), e1, tl_of]
  · rw [tl_div (by rw [e1]; omega) (by rw [tl_of]; omega), e1, tl_of]
    have := Int.ediv_nonneg hm.1 (show 0 ≤ z.toInt by omega)
    omega
  · rw [tl_div (by rw [e1]; omega) (by rw [tl_of]; omega), e1, tl_of]
    exact hb
/-! One pond's numbers. -/
theorem ti_3 : (3 : Int32).toInt = 3 := rfl
theorem ti_10 : (10 : Int32).toInt = 10 := rfl
theorem te_level {f g : Nat → Int32} (f0 : f 0 = 3) (g0 : g 0 = 3) (e1 : f 1 = g 1) (l1 : 0 ≤ (f 1).toInt) : f_X1_level f = g_X4_level g ∧ (f_X1_level f).toInt = (f 1).toInt / 3 := by
  have hv : (f_X1_level f).toInt = (f 1).toInt / 3 := by
    have h := tp_share (x := f 1) (y := 1) (z := 3) (by decide)
    have h2 := tp_val (x := f 1) (y := 1) (z := 3) l1 (by decide) (by decide) (by
      have := ti_hi (f 1)
      have e : (1 : Int32).toInt = 1 := rfl
      have e3 : (3 : Int32).toInt = 3 := rfl
      rw [e, e3, Int.mul_one]
      omega)
    unfold f_X1_level
    rw [f0]
    have h3 : f_X3_portion (f 1).toInt64 1 (3 : Int32).toInt64 = f_X3_portion (f 1).toInt64 (1 : Int32).toInt64 (3 : Int32).toInt64 := rfl
    rw [h3, h, h2, show (1 : Int32).toInt = 1 from rfl, Int.mul_one, ti_3]
  refine ⟨ti_eq ?_, hv⟩
  rw [hv]
  unfold g_X4_level
  rw [g0, ← e1, ti_div l1 (by decide), ti_3]
theorem te_str {f g : Nat → Int32} (e1 : f 1 = g 1) (e2 : f 2 = g 2) (e4 : f 4 = g 4) (l1 : 0 ≤ (f 1).toInt) (l2 : 0 ≤ (f 2).toInt) (l4 : 0 ≤ (f 4).toInt) : f_X1_strength f = g_X4_strength g ∧ 0 ≤ (f_X1_strength f).toInt ∧ (f_X1_strength f).toInt ≤ 90 := by
  have h2 := ti_hi (f 2)
  have h4 := ti_hi (f 4)
  have h1 := ti_hi (f 1)
  have eS : ((f 2).toInt64 + (f 4).toInt64).toInt = (f 2).toInt + (f 4).toInt := by
    rw [tl_add (by rw [tl_of, tl_of]; omega) (by rw [tl_of, tl_of]; omega), tl_of, tl_of]
  have eZ : ((5 : Int64) * (f 1).toInt64).toInt = 5 * (f 1).toInt := by
    rw [tl_mul (by rw [tl_of, show (5 : Int64).toInt = 5 from rfl]; omega) (by rw [tl_of, show (5 : Int64).toInt = 5 from rfl]; omega), tl_of]
    rfl
  by_cases hz : f 1 = 0
  · have e : f_X1_strength f = 0 := by
      unfold f_X1_strength f_X3_portion
      rw [hz, if_neg (by rw [lg_cmp_ge, tl_le]; decide)]
      rfl
    rw [e]
    refine ⟨?_, by decide, by decide⟩
    unfold g_X4_strength
    rw [if_pos (by rw [← e1]; exact hz)]
  · have hp : 1 ≤ (f 1).toInt := by
      have : (f 1).toInt ≠ 0 := fun e => hz (ti_eq e)
      omega
    have eQ : (((f 2).toInt64 + (f 4).toInt64) / (5 * (f 1).toInt64)).toInt = ((f 2).toInt + (f 4).toInt) / (5 * (f 1).toInt) := by
      rw [tl_div (by rw [eS]; omega) (by rw [eZ]; omega), eS, eZ]
    have q0 : 0 ≤ ((f 2).toInt + (f 4).toInt) / (5 * (f 1).toInt) := Int.ediv_nonneg (by omega) (by omega)
    have q1 : ((f 2).toInt + (f 4).toInt) / (5 * (f 1).toInt) ≤ 858993459 := by
      have h5 : ((f 2).toInt + (f 4).toInt) / (5 * (f 1).toInt) ≤ ((f 2).toInt + (f 4).toInt) / 5 := by
        rw [← Int.ediv_ediv_of_nonneg (by omega)]
        exact Int.ediv_le_self _ (by omega)
      omega
    have e32 : (((f 2).toInt64 + (f 4).toInt64) / (5 * (f 1).toInt64)).toInt32.toInt = ((f 2).toInt + (f 4).toInt) / (5 * (f 1).toInt) := by
      rw [tl_32 (by rw [eQ]; omega) (by rw [eQ]; omega), eQ]
    have eP : f_X3_portion ((f 2).toInt64 + (f 4).toInt64) 1 (5 * (f 1).toInt64) = (((f 2).toInt64 + (f 4).toInt64) / (5 * (f 1).toInt64)).toInt32 := by
      unfold f_X3_portion
      rw [if_pos (by rw [lg_cmp_ge, tl_le, eZ]; show (1 : Int) ≤ _; omega), Int64.mul_one]
    have eV : (f_X1_strength f).toInt = min 90 (((f 2).toInt + (f 4).toInt) / (5 * (f 1).toInt)) := by
      unfold f_X1_strength
      rw [ti_min, eP, e32]
      rfl
    refine ⟨?_, by rw [eV]; omega, by rw [eV]; omega⟩
    unfold g_X4_strength
    rw [if_neg (by rw [← e1]; exact hz), ← e1, ← e2, ← e4]
    apply ti_eq
    rw [eV]
    unfold f_lmin
    by_cases hc : ((f 2).toInt64 + (f 4).toInt64) / (5 * (f 1).toInt64) < 90
    · rw [if_pos hc, e32]
      have := tl_lt.mp hc
      rw [eQ, show (90 : Int64).toInt = 90 from rfl] at this
      omega
    · rw [if_neg hc]
      have := mt tl_lt.mpr hc
      rw [eQ, show (90 : Int64).toInt = 90 from rfl] at this
      rw [show (90 : Int64).toInt32.toInt = 90 from rfl]
      omega
theorem tr_up (e : Int32) : f_X3_roundedUp e 1000 = (e + 999) / 1000 := by
  unfold f_X3_roundedUp
  rw [if_pos (by decide), Int32.sub_eq_add_neg, Int32.add_assoc]
  rfl
theorem tr_2 (e : Int32) : f_X3_roundedUp e 2 = (e + 1) / 2 := by
  unfold f_X3_roundedUp
  rw [if_pos (by decide), Int32.sub_eq_add_neg, Int32.add_assoc]
  rfl
/-- how much brine goes: not less than nothing -/
theorem tw_dry {x m st : Int32} (hx : 0 ≤ x.toInt) (hx2 : x.toInt ≤ 18) (hm : 0 ≤ m.toInt) (hm2 : m.toInt ≤ 3 * x.toInt / 10) (h0 : 0 ≤ st.toInt) (h9 : st.toInt ≤ 90) : 0 ≤ ((((3 : Int32) * x - 10 * m) * (100 - st) + 999) / 1000).toInt := by
  have a1 : ((3 : Int32) * x).toInt = 3 * x.toInt := by rw [ti_mul (by rw [ti_3]; omega) (by rw [ti_3]; omega), ti_3]
  have a2 : ((10 : Int32) * m).toInt = 10 * m.toInt := by rw [ti_mul (by rw [ti_10]; omega) (by rw [ti_10]; omega), ti_10]
  have a3 : ((3 : Int32) * x - 10 * m).toInt = 3 * x.toInt - 10 * m.toInt := by rw [ti_sub (by rw [a1, a2]; omega) (by rw [a1, a2]; omega), a1, a2]
  have a4 : ((100 : Int32) - st).toInt = 100 - st.toInt := by rw [ti_sub (by show -2147483648 ≤ (100 : Int) - _; omega) (by show (100 : Int) - _ ≤ _; omega)]; rfl
  have a5 := in_mul (x := 3 * x.toInt - 10 * m.toInt) (X := 54) (y := 100 - st.toInt) (Y := 100) (by omega) (by omega) (by omega) (by omega)
  have a6 : (((3 : Int32) * x - 10 * m) * (100 - st)).toInt = (3 * x.toInt - 10 * m.toInt) * (100 - st.toInt) := by rw [ti_mul (by rw [a3, a4]; omega) (by rw [a3, a4]; omega), a3, a4]
  have a7 : (((3 : Int32) * x - 10 * m) * (100 - st) + 999).toInt = (3 * x.toInt - 10 * m.toInt) * (100 - st.toInt) + 999 := by
    rw [ti_add (by rw [a6, show (999 : Int32).toInt = 999 from rfl]; omega) (by rw [a6, show (999 : Int32).toInt = 999 from rfl]; omega), a6]
    rfl
  rw [ti_div (by rw [a7]; omega) (by decide), a7]
  exact Int.ediv_nonneg (by omega) (by decide)
theorem ti_half {x : Int32} (h : 0 ≤ x.toInt) : (x / 2).toInt = x.toInt / 2 := by
  rw [ti_div h (by decide)]
  rfl
/-- of brine at most a half goes -/
theorem tw_go {b w : Int32} (hb : 0 ≤ b.toInt) (hw : 0 ≤ w.toInt) : 0 ≤ (b - f_min (b / 2) w).toInt ∧ (b - f_min (b / 2) w).toInt ≤ b.toInt := by
  have hh := ti_half hb
  have hm := ti_min (b / 2) w
  rw [hh] at hm
  have := ti_hi b
  rw [ti_sub (by omega) (by omega)]
  omega
/-- what falls of nothing: nothing -/
theorem ta_0 {f : Nat → Int32} {y : Int64} (hy : 0 ≤ y.toInt) (hy2 : y.toInt ≤ 300) (l1 : 0 ≤ (f 1).toInt) : g_above f 0 y = 0 := by
  have h1 := ti_hi (f 1)
  have hm := in_mul hy hy2 l1 h1
  have e : (y * (f 1).toInt64).toInt = y.toInt * (f 1).toInt := by rw [tl_mul (by rw [tl_of]; omega) (by rw [tl_of]; omega), tl_of]
  unfold g_above f_lmax
  have e2 : ((0 : Int32).toInt64 - y * (f 1).toInt64).toInt = - (y.toInt * (f 1).toInt) := by
    rw [tl_sub (by rw [e]; show (-9223372036854775808 : Int) ≤ 0 - _; omega) (by rw [e]; show (0 : Int) - _ ≤ _; omega), e]
    show (0 : Int) - _ = _
    omega
  by_cases hc : (0 : Int32).toInt64 - y * (f 1).toInt64 < 0
  · rw [if_pos hc]; rfl
  · rw [if_neg hc]
    have h3 := mt tl_lt.mpr hc
    rw [e2, show (0 : Int64).toInt = 0 from rfl] at h3
    have h4 : (0 : Int32).toInt64 - y * (f 1).toInt64 = 0 := tl_eq (by rw [e2]; show _ = (0 : Int); omega)
    rw [h4]
    rfl
/-- what falls, and what stays -/
theorem ta_val {f : Nat → Int32} {x : Int32} {y : Int64} (hy : 0 ≤ y.toInt) (hy2 : y.toInt ≤ 300) (l1 : 0 ≤ (f 1).toInt) (hx : 0 ≤ x.toInt) : 0 ≤ (g_above f x y).toInt ∧ (g_above f x y).toInt ≤ x.toInt := by
  have h1 := ti_hi (f 1)
  have h2 := ti_hi x
  have hm := in_mul hy hy2 l1 h1
  have e : (y * (f 1).toInt64).toInt = y.toInt * (f 1).toInt := by rw [tl_mul (by rw [tl_of]; omega) (by rw [tl_of]; omega), tl_of]
  have e2 : (x.toInt64 - y * (f 1).toInt64).toInt = x.toInt - y.toInt * (f 1).toInt := by
    rw [tl_sub (by rw [e, tl_of]; omega) (by rw [e, tl_of]; omega), e, tl_of]
  unfold g_above f_lmax
  by_cases hc : x.toInt64 - y * (f 1).toInt64 < 0
  · rw [if_pos hc]
    exact ⟨by decide, by rw [show (0 : Int64).toInt32.toInt = 0 from rfl]; exact hx⟩
  · rw [if_neg hc]
    have h3 := mt tl_lt.mpr hc
    rw [e2, show (0 : Int64).toInt = 0 from rfl] at h3
    rw [tl_32 (by rw [e2]; omega) (by rw [e2]; omega), e2]
    omega
theorem ta_eq (f : Nat → Int32) (x y : Int32) : f_X1_above f x y = g_above f x y.toInt64 := rfl
/-! A day's parts, pond by pond. -/
def lp (b : Nat) (F : (Nat → Int32) → Nat → Int32) : Nat → Nat → sS → sS
  | 0, _, σ => σ
  | n + 1, k, σ => lp b F n (k + 1) (va_up σ (b + k) (F (σ (b + k))))
theorem lp_out {b : Nat} {F : (Nat → Int32) → Nat → Int32} {i : Nat} : ∀ (n k : Nat) (σ : sS), i < b + k ∨ b + k + n ≤ i → lp b F n k σ i = σ i
  | 0, _, _, _ => rfl
  | n + 1, k, σ, h => (lp_out n (k + 1) _ (by omega)).trans (va_up_ne _ _ (by omega))
theorem lp_at {b : Nat} {F : (Nat → Int32) → Nat → Int32} {j : Nat} : ∀ (n k : Nat) (σ : sS), k ≤ j → j < k + n → lp b F n k σ (b + j) = F (σ (b + j))
  | 0, k, _, h1, h2 => absurd h2 (by omega)
  | n + 1, k, σ, h1, h2 => by
    show lp b F n (k + 1) (va_up σ (b + k) (F (σ (b + k)))) (b + j) = _
    by_cases e : j = k
    · subst e
      rw [lp_out n (j + 1) _ (Or.inl (by omega)), va_up_self]
    · rw [lp_at n (k + 1) _ (by omega) (by omega), va_up_ne _ _ (by omega)]
/-- a pond's day -/
def f_pF (s z : Int32) (f : Nat → Int32) : Nat → Int32 := f_X1_dropMinerals (f_X1_mixFresh (f_X1_dryOut (f_X1_rainFalls (upd f 11 0) z) s))
theorem lp_pond {σ : sS} {r k : Nat} {z : Int32} : f_X2_pond σ r k z = va_up σ (5 + 8 * r + k) (f_pF (σ (1 + r) 2 + σ (1 + r) 3) z (σ (5 + 8 * r + k))) := by
  unfold f_X2_pond f_pF
  have hne : (1 + r) ≠ 5 + 8 * r + k := by omega
  simp only [va_up_self, sup_up, va_up_ne _ _ hne]
theorem lp_ponds {r : Nat} {z s : Int32} : ∀ (n k : Nat) (σ : sS), σ (1 + r) 2 + σ (1 + r) 3 = s → f_X2_ponds r z n k σ = lp (5 + 8 * r) (f_pF s z) n k σ
  | 0, _, _, _ => rfl
  | n + 1, k, σ, h => by
    show f_X2_ponds r z n (k + 1) (f_X2_pond σ r k z) = lp (5 + 8 * r) (f_pF s z) n (k + 1) _
    rw [lp_pond, h]
    exact lp_ponds n (k + 1) _ (by rw [va_up_ne _ _ (by omega)]; exact h)
def g_rF (z : Int32) (f : Nat → Int32) : Nat → Int32 := if f 9 = 0 then upd f 5 (f 5 + z * f 0 / 10) else f
def g_mF (f : Nat → Int32) : Nat → Int32 := if f 5 ≤ 0 then f else g_X4_mix f
theorem lp_rain {z : Int32} : ∀ (n k : Nat) (σ : sS), g_X5_rain z n k σ = lp 2 (g_rF z) n k σ
  | 0, _, _ => rfl
  | n + 1, k, σ => by
    show g_X5_rain z n (k + 1) (g_X5_rainStep z σ k) = lp 2 (g_rF z) n (k + 1) _
    rw [lp_rain n (k + 1)]
    congr 1
    unfold g_X5_rainStep g_rF
    split
    · rfl
    · exact sup_id.symm
theorem lp_dry {x : Int32} : ∀ (n k : Nat) (σ : sS), g_X5_dry x n k σ = lp 2 (fun f => g_X4_dry f x) n k σ
  | 0, _, _ => rfl
  | n + 1, k, σ => lp_dry n (k + 1) _
theorem lp_mix : ∀ (n k : Nat) (σ : sS), g_X5_mix n k σ = lp 2 g_mF n k σ
  | 0, _, _ => rfl
  | n + 1, k, σ => by
    show g_X5_mix n (k + 1) (g_X5_mixStep σ k) = lp 2 g_mF n (k + 1) _
    rw [lp_mix n (k + 1)]
    congr 1
    unfold g_X5_mixStep g_mF
    split
    · exact sup_id.symm
    · rfl
theorem lp_fall : ∀ (n k : Nat) (σ : sS), g_X5_fall n k σ = lp 2 g_X4_fall n k σ
  | 0, _, _ => rfl
  | n + 1, k, σ => lp_fall n (k + 1) _
/-- the row with its day begun: the sea, the gates -/
def f_flown (σ : sS) (r : Nat) (x y : Int32) : sS := f_X2_letBrineFlowOn (f_X2_letSeaIn (f_X2_start σ r x y) r) r
def g_flown (σ : sS) : sS := g_X5_flow 7 (g_X5_seaStep (g_X5_start σ))
theorem fl_row {r : Nat} {q : Nat} (hq : q = 1 ∨ q = 2 ∨ q = 3) : ∀ (τ : sS), f_X2_letBrineFlowOn (f_X2_letSeaIn τ r) r (1 + r) q = τ (1 + r) q := fun τ => by
  have hf : ∀ (n : Nat) (τ : sS), f_X2_flow r n τ (1 + r) = τ (1 + r) := by
    intro n
    induction n with
    | zero => intro τ; rfl
    | succ n ih =>
      intro τ
      show f_X2_flow r n (f_X2_flowStep τ r n) (1 + r) = _
      rw [ih]
      unfold f_X2_flowStep
      split
      · rfl
      · split
        · rfl
        · exact k_give (by omega) (by omega)
  unfold f_X2_letBrineFlowOn
  rw [hf]
  unfold f_X2_letSeaIn
  split
  · rfl
  · split
    · rfl
    · unfold f_X2_sea
      rw [va_up_self, va_up_ne _ _ (by omega)]
      rcases hq with rfl | rfl | rfl <;> rfl
theorem dy_at {σ : sS} {r j : Nat} {x y z : Int32} (hj : j < 8) : f_X2_letDayGoBy σ r x y z (5 + 8 * r + j) = f_pF (x + y) z (f_flown σ r x y (5 + 8 * r + j)) := by
  have hs : f_flown σ r x y (1 + r) 2 + f_flown σ r x y (1 + r) 3 = x + y := by
    unfold f_flown
    rw [fl_row (Or.inr (Or.inl rfl)), fl_row (Or.inr (Or.inr rfl))]
    unfold f_X2_start
    simp only [va_up_self]
    rfl
  show f_X2_ponds r z 8 0 (f_flown σ r x y) (5 + 8 * r + j) = _
  rw [lp_ponds 8 0 _ hs, lp_at 8 0 _ (by omega) (by omega)]
theorem dy_day {σ : sS} {r : Nat} {x y z : Int32} : f_X2_letDayGoBy σ r x y z (1 + r) 1 = σ (1 + r) 1 + 1 := by
  have hs : f_flown σ r x y (1 + r) 2 + f_flown σ r x y (1 + r) 3 = x + y := by
    unfold f_flown
    rw [fl_row (Or.inr (Or.inl rfl)), fl_row (Or.inr (Or.inr rfl))]
    unfold f_X2_start
    simp only [va_up_self]
    rfl
  show f_X2_ponds r z 8 0 (f_flown σ r x y) (1 + r) 1 = _
  rw [lp_ponds 8 0 _ hs, lp_out 8 0 _ (Or.inl (by omega))]
  unfold f_flown
  rw [fl_row (Or.inl rfl)]
  unfold f_X2_start
  simp only [va_up_self]
  rfl
theorem my_wet {σ : sS} {x y z : Int32} {j : Nat} (hj : j < 8) : g_X5_wet σ x y z (2 + j) = g_mF (g_X4_dry (g_rF z (g_flown σ (2 + j))) (x + y)) := by
  show g_X5_mix 8 0 (g_X5_dry (x + y) 8 0 (g_X5_rain z 8 0 (g_flown σ))) (2 + j) = _
  rw [lp_mix, lp_at 8 0 _ (by omega) (by omega), lp_dry, lp_at 8 0 _ (by omega) (by omega), lp_rain, lp_at 8 0 _ (by omega) (by omega)]
theorem my_at {σ : sS} {x y z : Int32} {j : Nat} (hj : j < 8) : g_X5_day σ x y z (2 + j) = g_X4_fall (g_mF (g_X4_dry (g_rF z (g_flown σ (2 + j))) (x + y))) := by
  show g_X5_fall 8 0 (g_X5_wet σ x y z) (2 + j) = _
  rw [lp_fall, lp_at 8 0 _ (by omega) (by omega), my_wet hj]
theorem my_row {σ : sS} : g_flown σ 0 1 = σ 0 1 + 1 := by
  have hf : ∀ (n : Nat) (τ : sS), g_X5_flow n τ 0 = τ 0 := by
    intro n
    induction n with
    | zero => intro τ; rfl
    | succ n ih =>
      intro τ
      show g_X5_flow n (g_X5_flowStep τ n) 0 = _
      rw [ih]
      unfold g_X5_flowStep
      split
      · rfl
      · split
        · rfl
        · unfold g_X4_give
          rw [va_up_ne _ _ (by omega), va_up_ne _ _ (by omega)]
  unfold g_flown
  rw [hf]
  unfold g_X5_seaStep
  split
  · unfold g_X5_start; rw [va_up_self]; rfl
  · split
    · unfold g_X5_start; rw [va_up_self]; rfl
    · unfold g_X5_sea
      rw [va_up_self]
      unfold g_X5_start
      rw [va_up_self]
      rfl
theorem my_day {σ : sS} {x y z : Int32} : g_X5_day σ x y z 0 1 = σ 0 1 + 1 := by
  show g_X5_fall 8 0 (g_X5_mix 8 0 (g_X5_dry (x + y) 8 0 (g_X5_rain z 8 0 (g_flown σ)))) 0 1 = _
  rw [lp_fall, lp_out 8 0 _ (Or.inl (by omega)), lp_mix, lp_out 8 0 _ (Or.inl (by omega)), lp_dry, lp_out 8 0 _ (Or.inl (by omega)), lp_rain, lp_out 8 0 _ (Or.inl (by omega)), my_row]
theorem my_fell {j : Nat} : ∀ (n k : Nat) (σ : sS) (f : Nat → Int32), j < k + n → g_X5_fell n k σ f j = if j < k then f j else g_X4_fallV (σ (2 + j))
  | 0, k, σ, f, h => (if_pos (show j < k by omega)).symm
  | n + 1, k, σ, f, h => by
    show g_X5_fell n (k + 1) (va_up σ (2 + k) (g_X4_fall (σ (2 + k)))) (upd f k (g_X4_fallV (σ (2 + k)))) j = _
    rw [my_fell n (k + 1) _ _ (by omega)]
    by_cases e : j = k
    · subst e
      rw [if_pos (by omega), if_neg (by omega)]
      unfold upd
      rw [if_pos rfl]
    · by_cases e2 : j < k
      · rw [if_pos (by omega), if_pos e2]
        unfold upd
        rw [if_neg e]
      · rw [if_neg (by omega), if_neg e2, va_up_ne _ _ (by omega)]
theorem my_made {σ : sS} {x y z : Int32} {j : Nat} (hj : j < 8) : g_X5_made σ x y z j = g_X4_fallV (g_mF (g_X4_dry (g_rF z (g_flown σ (2 + j))) (x + y))) := by
  show g_X5_fell 8 0 (g_X5_wet σ x y z) (fun _ => 0) j = _
  rw [my_fell 8 0 _ _ (by omega), if_neg (by omega), my_wet hj]
/-! A pond without salt: rain comes and goes. -/
abbrev nP (n : Int) (f : Nat → Int32) : Prop := f 0 = 3 ∧ 0 ≤ (f 1).toInt ∧ 0 ≤ (f 5).toInt ∧ (f 1).toInt + (f 5).toInt ≤ 12 * n ∧ f 2 = 0 ∧ f 3 = 0 ∧ f 4 = 0 ∧ f 6 = 0
theorem nP.f0 {n : Int} {f : Nat → Int32} (h : nP n f) : f 0 = 3 := h.1
theorem nP.l1 {n : Int} {f : Nat → Int32} (h : nP n f) : 0 ≤ (f 1).toInt := h.2.1
theorem nP.l5 {n : Int} {f : Nat → Int32} (h : nP n f) : 0 ≤ (f 5).toInt := h.2.2.1
theorem nP.u {n : Int} {f : Nat → Int32} (h : nP n f) : (f 1).toInt + (f 5).toInt ≤ 12 * n := h.2.2.2.1
theorem nP.z2 {n : Int} {f : Nat → Int32} (h : nP n f) : f 2 = 0 := h.2.2.2.2.1
theorem nP.z3 {n : Int} {f : Nat → Int32} (h : nP n f) : f 3 = 0 := h.2.2.2.2.2.1
theorem nP.z4 {n : Int} {f : Nat → Int32} (h : nP n f) : f 4 = 0 := h.2.2.2.2.2.2.1
theorem nP.z6 {n : Int} {f : Nat → Int32} (h : nP n f) : f 6 = 0 := h.2.2.2.2.2.2.2
theorem tz_rain {z : Int32} (h0 : 0 ≤ z.toInt) (h1 : z.toInt ≤ 40) : 0 ≤ (z * 3 / 10).toInt ∧ (z * 3 / 10).toInt ≤ 12 := by
  have e : (z * 3).toInt = z.toInt * 3 := by rw [ti_mul (by rw [ti_3]; omega) (by rw [ti_3]; omega), ti_3]
  rw [ti_div (by rw [e]; omega) (by decide), e, ti_10]
  omega
theorem tz_dry {x : Int32} (h0 : 0 ≤ x.toInt) (h1 : x.toInt ≤ 18) : ((3 : Int32) * x / 10).toInt = 3 * x.toInt / 10 := by
  have e : ((3 : Int32) * x).toInt = 3 * x.toInt := by rw [ti_mul (by rw [ti_3]; omega) (by rw [ti_3]; omega), ti_3]
  rw [ti_div (by rw [e]; omega) (by decide), e, ti_10]
theorem nP_rain {n : Int} {f : Nat → Int32} {v : Int32} (h : nP n f) (hn : n ≤ 1000000) (h0 : 0 ≤ v.toInt) (h1 : v.toInt ≤ 12) : nP (n + 1) (upd f 5 (f 5 + v)) := by
  obtain ⟨f0, l1, l5, u, z2, z3, z4, z6⟩ := h
  have e : (f 5 + v).toInt = (f 5).toInt + v.toInt := ti_add (by omega) (by omega)
  exact ⟨f0, l1, by show 0 ≤ (f 5 + v).toInt; omega, by show (f 1).toInt + (f 5 + v).toInt ≤ _; omega, z2, z3, z4, z6⟩
theorem nP_mono {n m : Int} {f : Nat → Int32} (h : nP n f) (hm : n ≤ m) : nP m f := by
  obtain ⟨f0, l1, l5, u, z2, z3, z4, z6⟩ := h
  exact ⟨f0, l1, l5, by omega, z2, z3, z4, z6⟩
theorem nP_dryC {n : Int} {f : Nat → Int32} {w m : Int32} (h : nP n f) (hn : n ≤ 1000000) (hm : 0 ≤ m.toInt) (hm2 : m.toInt ≤ (f 5).toInt) (hw : 0 ≤ w.toInt) : nP n (upd (upd f 5 (f 5 - m)) 1 (f 1 - f_min (f 1 / 2) w)) := by
  obtain ⟨f0, l1, l5, u, z2, z3, z4, z6⟩ := h
  have e : (f 5 - m).toInt = (f 5).toInt - m.toInt := ti_sub (by omega) (by omega)
  have g := tw_go l1 hw
  exact ⟨f0, g.1, by show 0 ≤ (f 5 - m).toInt; omega, by show (f 1 - f_min (f 1 / 2) w).toInt + (f 5 - m).toInt ≤ _; omega, z2, z3, z4, z6⟩
theorem nP_min {n : Int} {f : Nat → Int32} {x : Int32} (h : nP n f) (h0 : 0 ≤ x.toInt) (h1 : x.toInt ≤ 18) : 0 ≤ (f_min (f 5) (f 0 * x / 10)).toInt ∧ (f_min (f 5) (f 0 * x / 10)).toInt ≤ (f 5).toInt ∧ (f_min (f 5) (f 0 * x / 10)).toInt ≤ 3 * x.toInt / 10 := by
  have e := tz_dry h0 h1
  have l5 := h.l5
  rw [h.f0, ti_min, e]
  omega
theorem nP_dryX {n : Int} {f : Nat → Int32} {x : Int32} (h : nP n f) (hn : n ≤ 1000000) (h0 : 0 ≤ x.toInt) (h1 : x.toInt ≤ 18) : nP n (f_X1_dryOut f x) := by
  have hm := nP_min h h0 h1
  have hs := te_str (f := upd f 5 (f 5 - f_min (f 5) (f 0 * x / 10))) (g := upd f 5 (f 5 - f_min (f 5) (f 0 * x / 10))) rfl rfl rfl h.l1 (by show 0 ≤ (f 2).toInt; rw [h.z2]; decide) (by show 0 ≤ (f 4).toInt; rw [h.z4]; decide)
  unfold f_X1_dryOut
  rw [tr_up]
  refine nP_dryC h hn hm.1 hm.2.1 ?_
  have := tw_dry h0 h1 hm.1 hm.2.2 hs.2.1 hs.2.2
  rw [h.f0]
  rw [h.f0] at this
  exact this
theorem nP_dryM {n : Int} {f : Nat → Int32} {x : Int32} (h : nP n f) (hn : n ≤ 1000000) (h0 : 0 ≤ x.toInt) (h1 : x.toInt ≤ 18) : nP n (g_X4_dry f x) := by
  have hm := nP_min h h0 h1
  have hs := te_str (f := f) (g := f) rfl rfl rfl h.l1 (by rw [h.z2]; decide) (by rw [h.z4]; decide)
  unfold g_X4_dry
  rw [← hs.1]
  refine nP_dryC h hn hm.1 hm.2.1 ?_
  have := tw_dry h0 h1 hm.1 hm.2.2 hs.2.1 hs.2.2
  rw [h.f0]
  rw [h.f0] at this
  exact this
theorem nP_mixM {n : Int} {f : Nat → Int32} (h : nP n f) (hn : n ≤ 1000000) : nP n (g_X4_mix f) := by
  obtain ⟨f0, l1, l5, u, z2, z3, z4, z6⟩ := h
  have e1 : (f 5 + 1).toInt = (f 5).toInt + 1 := ti_add (by rw [show (1 : Int32).toInt = 1 from rfl]; omega) (by rw [show (1 : Int32).toInt = 1 from rfl]; omega)
  have e2 : ((f 5 + 1) / 2).toInt = ((f 5).toInt + 1) / 2 := by rw [ti_half (by omega), e1]
  have e3 : (f 5 - (f 5 + 1) / 2).toInt = (f 5).toInt - ((f 5).toInt + 1) / 2 := by rw [ti_sub (by omega) (by omega), e2]
  have e4 : (f 1 + (f 5 + 1) / 2).toInt = (f 1).toInt + ((f 5).toInt + 1) / 2 := by rw [ti_add (by omega) (by omega), e2]
  have e5 : f_min (f 6) (4 * ((f 5 + 1) / 2)) = 0 := by
    apply ti_eq
    rw [ti_min, z6, ti_mul (by rw [e2]; show _ ≤ (4 : Int) * _; omega) (by rw [e2]; show (4 : Int) * _ ≤ _; omega), e2]
    show min 0 ((4 : Int) * _) = 0
    omega
  unfold g_X4_mix
  rw [e5]
  exact ⟨f0, by show 0 ≤ (f 1 + (f 5 + 1) / 2).toInt; omega, by show 0 ≤ (f 5 - (f 5 + 1) / 2).toInt; omega, by show (f 1 + (f 5 + 1) / 2).toInt + (f 5 - (f 5 + 1) / 2).toInt ≤ _; omega, by show f 2 + 0 = 0; rw [z2]; rfl, z3, z4, by show f 6 - 0 = 0; rw [z6]; rfl⟩
theorem nP_mixX {n : Int} {f : Nat → Int32} (h : nP n f) (hn : n ≤ 1000000) : nP n (f_X1_mixFresh f) := by
  have := nP_mixM h hn
  unfold f_X1_mixFresh
  rw [tr_2]
  exact this
theorem nP_fallM {n : Int} {f : Nat → Int32} (h : nP n f) : nP n (g_X4_fall f) ∧ g_X4_fallV f = 0 := by
  obtain ⟨f0, l1, l5, u, z2, z3, z4, z6⟩ := h
  have a2 : g_above f (f 2) 300 = 0 := by rw [z2]; exact ta_0 (by decide) (by decide) l1
  have a3 : g_above f (f 3) 8 = 0 := by rw [z3]; exact ta_0 (by decide) (by decide) l1
  have a4 : g_above f (f 4) 200 = 0 := by rw [z4]; exact ta_0 (by decide) (by decide) l1
  refine ⟨?_, a2⟩
  unfold g_X4_fall
  rw [a2, a3, a4]
  exact ⟨f0, l1, l5, u, by show f 2 - 0 = 0; rw [z2]; rfl, by show f 3 - 0 = 0; rw [z3]; rfl, by show f 4 - 0 = 0; rw [z4]; rfl, by show f 6 + 0 = 0; rw [z6]; rfl⟩
theorem nP_fallX {n : Int} {f : Nat → Int32} (h : nP n f) : nP n (f_X1_dropMinerals f) ∧ f_X1_dropMinerals f 8 = 0 := by
  obtain ⟨f0, l1, l5, u, z2, z3, z4, z6⟩ := h
  have a2 : f_X1_above f (f 2) 300 = 0 := by rw [z2, ta_eq]; exact ta_0 (by decide) (by decide) l1
  have a3 : f_X1_above f (f 3) 8 = 0 := by rw [z3, ta_eq]; exact ta_0 (by decide) (by decide) l1
  have a4 : f_X1_above f (f 4) 200 = 0 := by rw [z4, ta_eq]; exact ta_0 (by decide) (by decide) l1
  unfold f_X1_dropMinerals
  rw [a2, a3, a4]
  exact ⟨⟨f0, l1, l5, u, by show f 2 - 0 = 0; rw [z2]; rfl, by show f 3 - 0 = 0; rw [z3]; rfl, by show f 4 - 0 = 0; rw [z4]; rfl, by show f 6 + 0 = 0; rw [z6]; rfl⟩, rfl⟩
/-- a pond's day without salt: the class's -/
theorem nP_dayX {n : Int} {f : Nat → Int32} {s z : Int32} (h : nP n f) (hc : f 10 = 0) (hn : n < 1000000) (s0 : 0 ≤ s.toInt) (s1 : s.toInt ≤ 18) (h0 : 0 ≤ z.toInt) (h1 : z.toInt ≤ 40) : nP (n + 1) (f_pF s z f) ∧ f_pF s z f 8 = 0 ∧ f_pF s z f 9 = f 9 ∧ f_pF s z f 10 = 0 := by
  have e : f_X1_rainFalls (upd f 11 0) z = upd (upd f 11 0) 5 (f 5 + z * 3 / 10) := by
    unfold f_X1_rainFalls
    rw [if_pos (show upd f 11 0 10 = 0 from hc)]
    show upd (upd f 11 0) 5 (f 5 + z * f 0 / 10) = _
    rw [h.f0]
  have hz := tz_rain h0 h1
  have h' : nP n (upd f 11 0) := ⟨h.f0, h.l1, h.l5, h.u, h.z2, h.z3, h.z4, h.z6⟩
  have a := nP_rain h' (by omega) hz.1 hz.2
  have b := nP_fallX (nP_mixX (nP_dryX a (by omega) s0 s1) (by omega))
  unfold f_pF
  rw [e]
  exact ⟨b.1, b.2, rfl, hc⟩
/-- the reference's -/
theorem nP_dayM {n : Int} {f : Nat → Int32} {s z : Int32} (h : nP n f) (hc : f 9 = 0) (hn : n < 1000000) (s0 : 0 ≤ s.toInt) (s1 : s.toInt ≤ 18) (h0 : 0 ≤ z.toInt) (h1 : z.toInt ≤ 40) : nP (n + 1) (g_X4_fall (g_mF (g_X4_dry (g_rF z f) s))) ∧ g_X4_fallV (g_mF (g_X4_dry (g_rF z f) s)) = 0 ∧ g_X4_fall (g_mF (g_X4_dry (g_rF z f) s)) 8 = f 8 ∧ g_X4_fall (g_mF (g_X4_dry (g_rF z f) s)) 9 = 0 := by
  have e : g_rF z f = upd f 5 (f 5 + z * 3 / 10) := by
    unfold g_rF
    rw [if_pos hc, h.f0]
  have hz := tz_rain h0 h1
  have a := nP_dryM (nP_rain h (by omega) hz.1 hz.2) (by omega) s0 s1
  rw [e]
  have b : nP (n + 1) (g_mF (g_X4_dry (upd f 5 (f 5 + z * 3 / 10)) s)) ∧ g_mF (g_X4_dry (upd f 5 (f 5 + z * 3 / 10)) s) 8 = f 8 ∧ g_mF (g_X4_dry (upd f 5 (f 5 + z * 3 / 10)) s) 9 = 0 := by
    unfold g_mF
    split
    · exact ⟨a, rfl, hc⟩
    · exact ⟨nP_mixM a (by omega), rfl, hc⟩
  have c := nP_fallM b.1
  exact ⟨c.1, c.2, b.2.1, b.2.2⟩
/-- a row without salt, its gates shut, no pond covered -/
def nX (n : Int) (r : Nat) (σ : sS) : Prop := ∀ j, j < 8 → nP n (σ (5 + 8 * r + j)) ∧ σ (5 + 8 * r + j) 9 = 0 ∧ σ (5 + 8 * r + j) 10 = 0
def nM (n : Int) (ρ : sS) : Prop := ∀ j, j < 8 → nP n (ρ (2 + j)) ∧ ρ (2 + j) 8 = 0 ∧ ρ (2 + j) 9 = 0
theorem nX_flown {n : Int} {r : Nat} {σ : sS} {x y : Int32} (h : nX n r σ) {j : Nat} (hj : j < 8) : f_flown σ r x y (5 + 8 * r + j) = σ (5 + 8 * r + j) := by
  have hs : ∀ i, i < 8 → f_X2_start σ r x y (5 + 8 * r + i) = σ (5 + 8 * r + i) := fun i _ => k_start (by omega)
  have e1 : f_X2_letSeaIn (f_X2_start σ r x y) r = f_X2_start σ r x y := by
    unfold f_X2_letSeaIn
    rw [if_pos (by rw [hs 0 (by omega)]; exact (h 0 (by omega)).2.1)]
  have e2 : ∀ (m : Nat) (τ : sS), m ≤ 7 → (∀ i, i < 8 → τ (5 + 8 * r + i) 9 = 0) → f_X2_flow r m τ = τ := by
    intro m
    induction m with
    | zero => intro τ _ _; rfl
    | succ m ih =>
      intro τ hm ht
      have e : f_X2_flowStep τ r m = τ := by
        unfold f_X2_flowStep
        rw [if_pos (ht (m + 1) (by omega))]
      show f_X2_flow r m (f_X2_flowStep τ r m) = τ
      rw [e]
      exact ih τ (by omega) ht
  unfold f_flown
  rw [e1]
  unfold f_X2_letBrineFlowOn
  rw [e2 7 _ (Nat.le_refl _) (fun i hi => by rw [hs i hi]; exact (h i hi).2.1), hs j hj]
theorem nM_flown {n : Int} {ρ : sS} (h : nM n ρ) {j : Nat} (hj : j < 8) : g_flown ρ (2 + j) = ρ (2 + j) := by
  have hs : ∀ i, i < 8 → g_X5_start ρ (2 + i) = ρ (2 + i) := fun i _ => va_up_ne _ _ (by omega)
  have e1 : g_X5_seaStep (g_X5_start ρ) = g_X5_start ρ := by
    unfold g_X5_seaStep
    rw [if_pos (by rw [hs 0 (by omega)]; exact (h 0 (by omega)).2.1)]
  have e2 : ∀ (m : Nat) (τ : sS), m ≤ 7 → (∀ i, i < 8 → τ (2 + i) 8 = 0) → g_X5_flow m τ = τ := by
    intro m
    induction m with
    | zero => intro τ _ _; rfl
    | succ m ih =>
      intro τ hm ht
      have e : g_X5_flowStep τ m = τ := by
        unfold g_X5_flowStep
        rw [if_pos (ht (m + 1) (by omega))]
      show g_X5_flow m (g_X5_flowStep τ m) = τ
      rw [e]
      exact ih τ (by omega) ht
  unfold g_flown
  rw [e1, e2 7 _ (Nat.le_refl _) (fun i hi => by rw [hs i hi]; exact (h i hi).2.1), hs j hj]
theorem nX_day {n : Int} {r : Nat} {σ : sS} {x y z : Int32} (h : nX n r σ) (hn : n < 1000000) (s0 : 0 ≤ (x + y).toInt) (s1 : (x + y).toInt ≤ 18) (h0 : 0 ≤ z.toInt) (h1 : z.toInt ≤ 40) : nX (n + 1) r (f_X2_letDayGoBy σ r x y z) ∧ ∀ j, j < 8 → f_X2_letDayGoBy σ r x y z (5 + 8 * r + j) 8 = 0 := by
  have key : ∀ j, j < 8 → nP (n + 1) (f_X2_letDayGoBy σ r x y z (5 + 8 * r + j)) ∧ f_X2_letDayGoBy σ r x y z (5 + 8 * r + j) 8 = 0 ∧ f_X2_letDayGoBy σ r x y z (5 + 8 * r + j) 9 = 0 ∧ f_X2_letDayGoBy σ r x y z (5 + 8 * r + j) 10 = 0 := fun j hj => by
    rw [dy_at hj, nX_flown h hj]
    have k := nP_dayX (h j hj).1 (h j hj).2.2 hn s0 s1 h0 h1
    exact ⟨k.1, k.2.1, k.2.2.1.trans (h j hj).2.1, k.2.2.2⟩
  exact ⟨fun j hj => ⟨(key j hj).1, (key j hj).2.2.1, (key j hj).2.2.2⟩, fun j hj => (key j hj).2.1⟩
theorem nM_day {n : Int} {ρ : sS} {x y z : Int32} (h : nM n ρ) (hn : n < 1000000) (s0 : 0 ≤ (x + y).toInt) (s1 : (x + y).toInt ≤ 18) (h0 : 0 ≤ z.toInt) (h1 : z.toInt ≤ 40) : nM (n + 1) (g_X5_day ρ x y z) ∧ ∀ j, j < 8 → g_X5_made ρ x y z j = 0 := by
  refine ⟨fun j hj => ?_, fun j hj => ?_⟩
  · rw [my_at hj, nM_flown h hj]
    have k := nP_dayM (h j hj).1 (h j hj).2.2 hn s0 s1 h0 h1
    exact ⟨k.1, k.2.2.1.trans (h j hj).2.1, k.2.2.2⟩
  · rw [my_made hj, nM_flown h hj]
    exact (nP_dayM (h j hj).1 (h j hj).2.2 hn s0 s1 h0 h1).2.1
theorem nX_fell {r : Nat} {x y z : Int32} (hr : r = 0) (s0 : 0 ≤ (x + y).toInt) (s1 : (x + y).toInt ≤ 18) (h0 : 0 ≤ z.toInt) (h1 : z.toInt ≤ 40) : ∀ (m : Nat) (n : Int) (σ : sS) (v : Int32), n + m ≤ 1000000 → nX n 0 σ → f_X3_fell x y z m σ v = v
  | 0, _, _, _, _, _ => rfl
  | m + 1, n, σ, v, hb, h => by
    have k := nX_day h (by omega) s0 s1 h0 h1
    show f_X3_fell x y z m (f_X2_letDayGoBy σ 0 x y z) (v + f_X2_saltFallenInPans (f_X2_letDayGoBy σ 0 x y z) 0) = v
    have e : f_X2_saltFallenInPans (f_X2_letDayGoBy σ 0 x y z) 0 = 0 := by
      show (((0 : Int32) + f_X2_letDayGoBy σ 0 x y z (5 + 8 * 0 + 5) 8) + f_X2_letDayGoBy σ 0 x y z (5 + 8 * 0 + 6) 8) + f_X2_letDayGoBy σ 0 x y z (5 + 8 * 0 + 7) 8 = 0
      rw [k.2 5 (by omega), k.2 6 (by omega), k.2 7 (by omega)]
      rfl
    rw [e, nX_fell rfl s0 s1 h0 h1 m (n + 1) _ _ (by omega) k.1]
    exact Int32.add_zero v
theorem nM_fell {x y z : Int32} (s0 : 0 ≤ (x + y).toInt) (s1 : (x + y).toInt ≤ 18) (h0 : 0 ≤ z.toInt) (h1 : z.toInt ≤ 40) : ∀ (m : Nat) (n : Int) (ρ : sS) (v : Int32), n + m ≤ 1000000 → nM n ρ → g_X6_fell x y z m ρ v = v
  | 0, _, _, _, _, _ => rfl
  | m + 1, n, ρ, v, hb, h => by
    have k := nM_day h (by omega) s0 s1 h0 h1
    show g_X6_fell x y z m (g_X5_day ρ x y z) (g_sum (g_X5_made ρ x y z) 3 5 v) = v
    have e : g_sum (g_X5_made ρ x y z) 3 5 v = v := by
      show ((v + g_X5_made ρ x y z 5) + g_X5_made ρ x y z 6) + g_X5_made ρ x y z 7 = v
      rw [k.2 5 (by omega), k.2 6 (by omega), k.2 7 (by omega), Int32.add_zero, Int32.add_zero, Int32.add_zero]
    rw [e]
    exact nM_fell s0 s1 h0 h1 m (n + 1) _ _ (by omega) k.1
/-! Ponds with salt, no rain: the class's and the reference's side by side. -/
abbrev eP (B C : Int) (f g : Nat → Int32) : Prop := f 0 = 3 ∧ g 0 = 3 ∧ f 1 = g 1 ∧ f 2 = g 2 ∧ f 4 = g 4 ∧ f 6 = g 6 ∧ f 5 = 0 ∧ g 5 = 0 ∧ f 9 = g 8 ∧ f 10 = 0 ∧ g 9 = 0 ∧ 0 ≤ (f 1).toInt ∧ (f 1).toInt ≤ B ∧ 0 ≤ (f 2).toInt ∧ 0 ≤ (f 4).toInt ∧ 0 ≤ (f 6).toInt ∧ (f 2).toInt + (f 6).toInt ≤ C ∧ (f 4).toInt ≤ C
theorem eP.f0 {B C : Int} {f g : Nat → Int32} (h : eP B C f g) : f 0 = 3 := h.1
theorem eP.g0 {B C : Int} {f g : Nat → Int32} (h : eP B C f g) : g 0 = 3 := h.2.1
theorem eP.e1 {B C : Int} {f g : Nat → Int32} (h : eP B C f g) : f 1 = g 1 := h.2.2.1
theorem eP.e2 {B C : Int} {f g : Nat → Int32} (h : eP B C f g) : f 2 = g 2 := h.2.2.2.1
theorem eP.e4 {B C : Int} {f g : Nat → Int32} (h : eP B C f g) : f 4 = g 4 := h.2.2.2.2.1
theorem eP.e6 {B C : Int} {f g : Nat → Int32} (h : eP B C f g) : f 6 = g 6 := h.2.2.2.2.2.1
theorem eP.f5 {B C : Int} {f g : Nat → Int32} (h : eP B C f g) : f 5 = 0 := h.2.2.2.2.2.2.1
theorem eP.g5 {B C : Int} {f g : Nat → Int32} (h : eP B C f g) : g 5 = 0 := h.2.2.2.2.2.2.2.1
theorem eP.eg {B C : Int} {f g : Nat → Int32} (h : eP B C f g) : f 9 = g 8 := h.2.2.2.2.2.2.2.2.1
theorem eP.f10 {B C : Int} {f g : Nat → Int32} (h : eP B C f g) : f 10 = 0 := h.2.2.2.2.2.2.2.2.2.1
theorem eP.g9 {B C : Int} {f g : Nat → Int32} (h : eP B C f g) : g 9 = 0 := h.2.2.2.2.2.2.2.2.2.2.1
theorem eP.l1 {B C : Int} {f g : Nat → Int32} (h : eP B C f g) : 0 ≤ (f 1).toInt := h.2.2.2.2.2.2.2.2.2.2.2.1
theorem eP.u1 {B C : Int} {f g : Nat → Int32} (h : eP B C f g) : (f 1).toInt ≤ B := h.2.2.2.2.2.2.2.2.2.2.2.2.1
theorem eP.l2 {B C : Int} {f g : Nat → Int32} (h : eP B C f g) : 0 ≤ (f 2).toInt := h.2.2.2.2.2.2.2.2.2.2.2.2.2.1
theorem eP.l4 {B C : Int} {f g : Nat → Int32} (h : eP B C f g) : 0 ≤ (f 4).toInt := h.2.2.2.2.2.2.2.2.2.2.2.2.2.2.1
theorem eP.l6 {B C : Int} {f g : Nat → Int32} (h : eP B C f g) : 0 ≤ (f 6).toInt := h.2.2.2.2.2.2.2.2.2.2.2.2.2.2.2.1
theorem eP.u2 {B C : Int} {f g : Nat → Int32} (h : eP B C f g) : (f 2).toInt + (f 6).toInt ≤ C := h.2.2.2.2.2.2.2.2.2.2.2.2.2.2.2.2.1
theorem eP.u4 {B C : Int} {f g : Nat → Int32} (h : eP B C f g) : (f 4).toInt ≤ C := h.2.2.2.2.2.2.2.2.2.2.2.2.2.2.2.2.2
theorem eP_mono {B C B' C' : Int} {f g : Nat → Int32} (h : eP B C f g) (hB : B ≤ B') (hC : C ≤ C') : eP B' C' f g := by
  obtain ⟨f0, g0, e1, e2, e4, e6, f5, g5, eg, f10, g9, l1, u1, l2, l4, l6, u2, u4⟩ := h
  exact ⟨f0, g0, e1, e2, e4, e6, f5, g5, eg, f10, g9, l1, by omega, l2, l4, l6, by omega, by omega⟩
/-- brine comes -/
theorem eP_in {B C B' C' : Int} {f g : Nat → Int32} {b s0 y y' t0 : Int32} (h : eP B C f g) (hb : 0 ≤ b.toInt) (hs : 0 ≤ s0.toInt) (ht : 0 ≤ t0.toInt) (hB : B + b.toInt ≤ B') (hC : C + s0.toInt ≤ C') (hC2 : C + t0.toInt ≤ C') (hB1 : B' ≤ 100000000) (hC1 : C' ≤ 100000000) : eP B' C' (f_X1_takeIn f b s0 y t0) (g_more g b s0 y' t0) := by
  obtain ⟨f0, g0, e1, e2, e4, e6, f5, g5, eg, f10, g9, l1, u1, l2, l4, l6, u2, u4⟩ := h
  have a1 : (f 1 + b).toInt = (f 1).toInt + b.toInt := ti_add (by omega) (by omega)
  have a2 : (f 2 + s0).toInt = (f 2).toInt + s0.toInt := ti_add (by omega) (by omega)
  have a4 : (f 4 + t0).toInt = (f 4).toInt + t0.toInt := ti_add (by omega) (by omega)
  exact ⟨f0, g0, by show f 1 + b = g 1 + b; rw [e1], by show f 2 + s0 = g 2 + s0; rw [e2], by show f 4 + t0 = g 4 + t0; rw [e4], e6, f5, g5, eg, f10, g9, by show 0 ≤ (f 1 + b).toInt; omega, by show (f 1 + b).toInt ≤ _; omega, by show 0 ≤ (f 2 + s0).toInt; omega, by show 0 ≤ (f 4 + t0).toInt; omega, l6, by show (f 2 + s0).toInt + (f 6).toInt ≤ _; omega, by show (f 4 + t0).toInt ≤ _; omega⟩
/-- brine goes -/
theorem eP_out {B C : Int} {f g : Nat → Int32} {b s0 y y' t0 : Int32} (h : eP B C f g) (hb : 0 ≤ b.toInt) (hb2 : b.toInt ≤ (f 1).toInt) (hs : 0 ≤ s0.toInt) (hs2 : s0.toInt ≤ (f 2).toInt) (ht : 0 ≤ t0.toInt) (ht2 : t0.toInt ≤ (f 4).toInt) : eP B C (f_X1_takeIn f (-b) (-s0) y (-t0)) (g_less g b s0 y' t0) := by
  obtain ⟨f0, g0, e1, e2, e4, e6, f5, g5, eg, f10, g9, l1, u1, l2, l4, l6, u2, u4⟩ := h
  have h1 := ti_hi (f 1)
  have h2 := ti_hi (f 2)
  have h4 := ti_hi (f 4)
  have a1 : (f 1 - b).toInt = (f 1).toInt - b.toInt := ti_sub (by omega) (by omega)
  have a2 : (f 2 - s0).toInt = (f 2).toInt - s0.toInt := ti_sub (by omega) (by omega)
  have a4 : (f 4 - t0).toInt = (f 4).toInt - t0.toInt := ti_sub (by omega) (by omega)
  have b1 : f 1 + -b = f 1 - b := (Int32.sub_eq_add_neg _ _).symm
  have b2 : f 2 + -s0 = f 2 - s0 := (Int32.sub_eq_add_neg _ _).symm
  have b4 : f 4 + -t0 = f 4 - t0 := (Int32.sub_eq_add_neg _ _).symm
  exact ⟨f0, g0, by show f 1 + -b = g 1 - b; rw [b1, e1], by show f 2 + -s0 = g 2 - s0; rw [b2, e2], by show f 4 + -t0 = g 4 - t0; rw [b4, e4], e6, f5, g5, eg, f10, g9, by show 0 ≤ (f 1 + -b).toInt; rw [b1]; omega, by show (f 1 + -b).toInt ≤ _; rw [b1]; omega, by show 0 ≤ (f 2 + -s0).toInt; rw [b2]; omega, by show 0 ≤ (f 4 + -t0).toInt; rw [b4]; omega, l6, by show (f 2 + -s0).toInt + (f 6).toInt ≤ _; rw [b2]; omega, by show (f 4 + -t0).toInt ≤ _; rw [b4]; omega⟩
/-- of what a pond has, a part as brine goes: at most a half -/
theorem ts_half {a x b : Int32} (ha : 0 ≤ a.toInt) (hx : 0 ≤ x.toInt) (hb : 1 ≤ b.toInt) (h2 : 2 * x.toInt ≤ b.toInt) : 0 ≤ (g_X6_share a x b).toInt ∧ 2 * (g_X6_share a x b).toInt ≤ a.toInt := by
  have hq : 0 ≤ a.toInt * x.toInt / b.toInt := Int.ediv_nonneg (Int.mul_nonneg ha hx) (by omega)
  have hm : a.toInt * x.toInt / b.toInt * b.toInt ≤ a.toInt * x.toInt := Int.ediv_mul_le _ (by omega)
  have hm2 : a.toInt * (2 * x.toInt) ≤ a.toInt * b.toInt := Int.mul_le_mul_of_nonneg_left h2 ha
  have h3 : 2 * (a.toInt * x.toInt / b.toInt) ≤ a.toInt := by
    apply Int.le_of_mul_le_mul_right (a := b.toInt) _ (by omega)
    have e1 : a.toInt * (2 * x.toInt) = 2 * (a.toInt * x.toInt) := by rw [Int.mul_left_comm]
    have e2 : 2 * (a.toInt * x.toInt / b.toInt) * b.toInt = 2 * (a.toInt * x.toInt / b.toInt * b.toInt) := Int.mul_assoc _ _ _
    omega
  have hh := ti_hi a
  have hv := tp_val ha hx hb (by omega)
  rw [hv]
  exact ⟨hq, h3⟩
/-- a day's dry part -/
theorem eP_dry {B C : Int} {f g : Nat → Int32} {s : Int32} (h : eP B C f g) (s0 : 0 ≤ s.toInt) (s1 : s.toInt ≤ 18) : eP B C (f_X1_dryOut f s) (g_X4_dry g s) := by
  obtain ⟨f0, g0, e1, e2, e4, e6, f5, g5, eg, f10, g9, l1, u1, l2, l4, l6, u2, u4⟩ := h
  have em : f_min (f 5) (f 0 * s / 10) = 0 := by
    apply ti_eq
    rw [ti_min, f5, f0, tz_dry s0 s1]
    show min (0 : Int) _ = 0
    omega
  have em' : f_min (g 5) (g 0 * s / 10) = 0 := by
    apply ti_eq
    rw [ti_min, g5, g0, tz_dry s0 s1]
    show min (0 : Int) _ = 0
    omega
  have hs := te_str (f := upd f 5 (f 5 - 0)) (g := g) e1 e2 e4 l1 l2 l4
  have hw := tw_dry s0 s1 (m := 0) (by decide) (by show (0 : Int) ≤ _; omega) hs.2.1 hs.2.2
  have hg := tw_go l1 hw
  unfold f_X1_dryOut g_X4_dry
  rw [tr_up, em, em', f0, g0, hs.1]
  rw [hs.1] at hg
  exact ⟨f0, g0, by show f 1 - f_min (f 1 / 2) _ = g 1 - f_min (g 1 / 2) _; rw [e1], e2, e4, e6, by show f 5 - 0 = 0; rw [f5]; rfl, by show g 5 - 0 = 0; rw [g5]; rfl, eg, f10, g9, hg.1, Int.le_trans hg.2 u1, l2, l4, l6, u2, u4⟩
theorem eP_mix {B C : Int} {f g : Nat → Int32} (h : eP B C f g) : eP B C (f_X1_mixFresh f) (g_mF g) := by
  obtain ⟨f0, g0, e1, e2, e4, e6, f5, g5, eg, f10, g9, l1, u1, l2, l4, l6, u2, u4⟩ := h
  have e : g_mF g = g := by
    unfold g_mF
    rw [if_pos (by rw [g5]; decide)]
  have em : f_min (f 6) (4 * f_X3_roundedUp (f 5) 2) = 0 := by
    apply ti_eq
    rw [ti_min, tr_2, f5]
    show min (f 6).toInt 0 = 0
    omega
  have er : f_X3_roundedUp (f 5) 2 = 0 := by rw [tr_2, f5]; rfl
  rw [e]
  unfold f_X1_mixFresh
  rw [em, er]
  have z1 : f 1 + 0 = f 1 := Int32.add_zero _
  have z2 : f 2 + 0 = f 2 := Int32.add_zero _
  have z6 : f 6 - 0 = f 6 := Int32.sub_zero _
  rw [z1, z2, z6]
  exact ⟨f0, g0, e1, e2, e4, e6, by show f 5 - 0 = 0; rw [f5]; rfl, g5, eg, f10, g9, l1, u1, l2, l4, l6, u2, u4⟩
theorem t_300 : (300 : Int32).toInt64 = 300 := by decide
theorem t_200 : (200 : Int32).toInt64 = 200 := by decide
theorem eP_fall {B C : Int} {f g : Nat → Int32} (h : eP B C f g) (hC : C ≤ 100000000) : eP B C (f_X1_dropMinerals f) (g_X4_fall g) := by
  obtain ⟨f0, g0, e1, e2, e4, e6, f5, g5, eg, f10, g9, l1, u1, l2, l4, l6, u2, u4⟩ := h
  have q2 : f_X1_above f (f 2) 300 = g_above g (g 2) 300 := by rw [ta_eq, t_300]; unfold g_above; rw [e1, e2]
  have q4 : f_X1_above f (f 4) 200 = g_above g (g 4) 200 := by rw [ta_eq, t_200]; unfold g_above; rw [e1, e4]
  have v2 := ta_val (f := g) (x := g 2) (y := 300) (by decide) (by decide) (by rw [← e1]; exact l1) (by rw [← e2]; exact l2)
  have v4 := ta_val (f := g) (x := g 4) (y := 200) (by decide) (by decide) (by rw [← e1]; exact l1) (by rw [← e4]; exact l4)
  have h2 := ti_hi (f 2)
  have h4 := ti_hi (f 4)
  rw [← e2] at v2
  rw [← e4] at v4
  unfold f_X1_dropMinerals g_X4_fall
  rw [q2, q4]
  rw [← e2] at q2 ⊢
  rw [← e4] at q4 ⊢
  have a2 : (f 2 - g_above g (f 2) 300).toInt = (f 2).toInt - (g_above g (f 2) 300).toInt := ti_sub (by omega) (by omega)
  have a4 : (f 4 - g_above g (f 4) 200).toInt = (f 4).toInt - (g_above g (f 4) 200).toInt := ti_sub (by omega) (by omega)
  have a6 : (f 6 + g_above g (f 2) 300).toInt = (f 6).toInt + (g_above g (f 2) 300).toInt := ti_add (by omega) (by omega)
  exact ⟨f0, g0, e1, by show f 2 - g_above g (f 2) 300 = f 2 - g_above g (f 2) 300; rfl, by show f 4 - g_above g (f 4) 200 = f 4 - g_above g (f 4) 200; rfl, by show f 6 + g_above g (f 2) 300 = g 6 + g_above g (f 2) 300; rw [e6], f5, g5, eg, f10, g9, l1, u1, by show 0 ≤ (f 2 - g_above g (f 2) 300).toInt; omega, by show 0 ≤ (f 4 - g_above g (f 4) 200).toInt; omega, by show 0 ≤ (f 6 + g_above g (f 2) 300).toInt; omega, by show (f 2 - g_above g (f 2) 300).toInt + (f 6 + g_above g (f 2) 300).toInt ≤ _; omega, by show (f 4 - g_above g (f 4) 200).toInt ≤ _; omega⟩
theorem eP_day {B C : Int} {f g : Nat → Int32} {s : Int32} (h : eP B C f g) (hC : C ≤ 100000000) (s0 : 0 ≤ s.toInt) (s1 : s.toInt ≤ 18) : eP B C (f_pF s 0 f) (g_X4_fall (g_mF (g_X4_dry (g_rF 0 g) s))) := by
  have h' : eP B C (f_X1_rainFalls (upd f 11 0) 0) (g_rF 0 g) := by
    obtain ⟨f0, g0, e1, e2, e4, e6, f5, g5, eg, f10, g9, l1, u1, l2, l4, l6, u2, u4⟩ := h
    unfold f_X1_rainFalls g_rF
    rw [if_pos (show upd f 11 0 10 = 0 from f10), if_pos g9]
    exact ⟨f0, g0, e1, e2, e4, e6, by show f 5 + 0 * f 0 / 10 = 0; rw [f5, f0]; rfl, by show g 5 + 0 * g 0 / 10 = 0; rw [g5, g0]; rfl, eg, f10, g9, l1, u1, l2, l4, l6, u2, u4⟩
  exact eP_fall (eP_mix (eP_dry h' s0 s1)) hC
/-- rows side by side, with a bound for each pond -/
def eR (B C : Nat → Int) (r : Nat) (σ ρ : sS) : Prop := ∀ j, j < 8 → eP (B j) (C j) (σ (5 + 8 * r + j)) (ρ (2 + j))
theorem te_tide {d : Int32} (h0 : 0 ≤ d.toInt) (h1 : d.toInt ≤ 100000) : 2 ≤ (f_X3_tideAt d).toInt ∧ (f_X3_tideAt d).toInt ≤ 9 := by
  have e14 : (14 : Int32).toInt = 14 := rfl
  have a1 : (d / 14).toInt = d.toInt / 14 := by rw [ti_div h0 (by decide), e14]
  have a2 : (d / 14 * 14).toInt = d.toInt / 14 * 14 := by rw [ti_mul (by rw [a1, e14]; omega) (by rw [a1, e14]; omega), a1, e14]
  have a3 : (f_rem d 14).toInt = d.toInt - d.toInt / 14 * 14 := by
    show (d - d / 14 * 14).toInt = _
    rw [ti_sub (by rw [a2]; omega) (by rw [a2]; omega), a2]
  have a4 : (f_rem d 14 - 7).toInt = d.toInt - d.toInt / 14 * 14 - 7 := by
    rw [ti_sub (by rw [a3]; show _ ≤ _ - (7 : Int); omega) (by rw [a3]; show _ - (7 : Int) ≤ _; omega), a3]
    rfl
  have a5 : 0 ≤ (f_abs (f_rem d 14 - 7)).toInt ∧ (f_abs (f_rem d 14 - 7)).toInt ≤ 7 := by
    show 0 ≤ (if 0 ≤ f_rem d 14 - 7 then f_rem d 14 - 7 else 0 - (f_rem d 14 - 7)).toInt ∧ (if 0 ≤ f_rem d 14 - 7 then f_rem d 14 - 7 else 0 - (f_rem d 14 - 7)).toInt ≤ 7
    by_cases h : 0 ≤ f_rem d 14 - 7
    · rw [if_pos h]
      have := ti_le.mp h
      rw [show (0 : Int32).toInt = 0 from rfl] at this
      omega
    · rw [if_neg h]
      have := mt ti_le.mpr h
      rw [show (0 : Int32).toInt = 0 from rfl] at this
      have e : (0 - (f_rem d 14 - 7)).toInt = - (f_rem d 14 - 7).toInt := by
        rw [ti_sub (by show _ ≤ (0 : Int) - _; omega) (by show (0 : Int) - _ ≤ _; omega)]
        show (0 : Int) - _ = _
        omega
      omega
  have a6 : (f_X3_tideAt d).toInt = 2 + (f_abs (f_rem d 14 - 7)).toInt := by
    unfold f_X3_tideAt
    rw [ti_add (by show _ ≤ (2 : Int) + _; omega) (by show (2 : Int) + _ ≤ _; omega)]
    rfl
  omega
/-! A row's day with salt, side by side. -/
def bB (B C : Int) (r : Nat) (σ ρ : sS) : Prop := ∀ j, j < 8 → eP B C (σ (5 + 8 * r + j)) (ρ (2 + j))
theorem eS_start {B C : Int} {r : Nat} {σ ρ : sS} {x y : Int32} (h : bB B C r σ ρ) : bB B C r (f_X2_start σ r x y) (g_X5_start ρ) := fun j hj => by
  have e1 : f_X2_start σ r x y (5 + 8 * r + j) = σ (5 + 8 * r + j) := k_start (by omega)
  have e2 : g_X5_start ρ (2 + j) = ρ (2 + j) := va_up_ne _ _ (by omega)
  rw [e1, e2]
  exact h j hj
theorem eS_sea {B C : Int} {r : Nat} {σ ρ : sS} (h : bB B C r σ ρ) (hd : σ (1 + r) 1 = ρ 0 1) (h0 : 0 ≤ (ρ 0 1).toInt) (h1 : (ρ 0 1).toInt ≤ 100000) (hB : B ≤ 10000000) (hC : C ≤ 10000000) : bB (B + 67) (C + 2010) r (f_X2_letSeaIn σ r) (g_X5_seaStep ρ) := by
  have hm : bB (B + 67) (C + 2010) r σ ρ := fun j hj => eP_mono (h j hj) (by omega) (by omega)
  have p0 := h 0 (by omega)
  have L := te_level p0.f0 p0.g0 p0.e1 p0.l1
  have T := te_tide h0 h1
  have l1 := p0.l1
  have eD : f_X2_seaD σ r = g_X5_seaD ρ := by
    unfold f_X2_seaD g_X5_seaD
    rw [hd, L.1]
    rfl
  have aT : (10 * f_X3_tideAt (ρ 0 1)).toInt = 10 * (f_X3_tideAt (ρ 0 1)).toInt := by rw [ti_mul (by rw [ti_10]; omega) (by rw [ti_10]; omega), ti_10]
  have aL : (f_X1_level (σ (5 + 8 * r + 0))).toInt ≤ 10000000 := by have := p0.u1; omega
  have aD : (f_X2_seaD σ r).toInt = 10 * (f_X3_tideAt (ρ 0 1)).toInt - (f_X1_level (σ (5 + 8 * r + 0))).toInt := by
    unfold f_X2_seaD
    rw [hd, ti_sub (by rw [aT]; omega) (by rw [aT]; omega), aT]
  unfold f_X2_letSeaIn g_X5_seaStep
  have eg := p0.eg
  by_cases c1 : σ (5 + 8 * r + 0) 9 = 0
  · rw [if_pos c1, if_pos (by rw [← eg]; exact c1)]
    exact hm
  · have c1' : ¬ ρ (2 + 0) 8 = 0 := by rw [← eg]; exact c1
    rw [if_neg c1, if_neg c1']
    by_cases c2 : f_X2_seaD σ r ≤ 0
    · have c2' : g_X5_seaD ρ ≤ 0 := by rw [← eD]; exact c2
      rw [if_pos (show 10 * f_X3_tideAt (σ (1 + r) 1) - f_X1_level (σ (5 + 8 * r + 0)) ≤ 0 from c2), if_pos c2']
      exact hm
    · have c2' : ¬ g_X5_seaD ρ ≤ 0 := by rw [← eD]; exact c2
      rw [if_neg (show ¬ 10 * f_X3_tideAt (σ (1 + r) 1) - f_X1_level (σ (5 + 8 * r + 0)) ≤ 0 from c2), if_neg c2']
      have c3 : 0 < (f_X2_seaD σ r).toInt := by
        have := mt ti_le.mpr c2
        rw [show (0 : Int32).toInt = 0 from rfl] at this
        omega
      have am : (f_X2_seaD σ r * 3).toInt = (f_X2_seaD σ r).toInt * 3 := by rw [ti_mul (by rw [ti_3]; omega) (by rw [ti_3]; omega), ti_3]
      have ax : (f_X2_seaD σ r * 3 / 4).toInt = (f_X2_seaD σ r).toInt * 3 / 4 := by rw [ti_div (by omega) (by decide), am]; rfl
      have eX : (10 * f_X3_tideAt (σ (1 + r) 1) - f_X1_level (σ (5 + 8 * r + 0))) * σ (5 + 8 * r + 0) 0 / 4 = f_X2_seaD σ r * 3 / 4 := by rw [p0.f0]; rfl
      have eY : g_X5_seaD ρ * ρ (2 + 0) 0 / 4 = f_X2_seaD σ r * 3 / 4 := by rw [p0.g0, eD]
      rw [eX, eY]
      generalize f_X2_seaD σ r * 3 / 4 = x at ax ⊢
      have hx : 0 ≤ x.toInt ∧ x.toInt ≤ 67 := by omega
      have a30 : (30 * x).toInt = 30 * x.toInt := by rw [ti_mul (by show _ ≤ (30 : Int) * _; omega) (by show (30 : Int) * _ ≤ _; omega)]; rfl
      have a6 : (6 * x).toInt = 6 * x.toInt := by rw [ti_mul (by show _ ≤ (6 : Int) * _; omega) (by show (6 : Int) * _ ≤ _; omega)]; rfl
      intro j hj
      unfold f_X2_sea g_X5_sea
      rw [va_up_ne _ _ (show 5 + 8 * r + j ≠ 1 + r by omega), va_up_ne _ _ (show 2 + j ≠ 0 by omega)]
      by_cases ej : j = 0
      · subst ej
        rw [va_up_self, va_up_self]
        exact eP_in p0 hx.1 (by omega) (by omega) (by omega) (by omega) (by omega) (by omega) (by omega)
      · rw [va_up_ne _ _ (show 5 + 8 * r + j ≠ 5 + 8 * r + 0 by omega), va_up_ne _ _ (show 2 + j ≠ 2 + 0 by omega)]
        exact hm j hj
/-- ponds up to n have what they had, those behind got a half more at most -/
def bH (B C : Int) (n r : Nat) (σ ρ : sS) : Prop := ∀ j, j < 8 → (j ≤ n → eP B C (σ (5 + 8 * r + j)) (ρ (2 + j))) ∧ (n < j → eP (B + B) (C + C) (σ (5 + 8 * r + j)) (ρ (2 + j)))
theorem bH_down {B C : Int} {n r : Nat} {σ ρ : sS} (h : bH B C (n + 1) r σ ρ) (hB : 0 ≤ B) (hC : 0 ≤ C) : bH B C n r σ ρ := fun j hj => ⟨fun q => (h j hj).1 (by omega), fun q => by
  by_cases e : j = n + 1
  · exact eP_mono ((h j hj).1 (by omega)) (by omega) (by omega)
  · exact (h j hj).2 (by omega)⟩
theorem eS_flowStep {B C : Int} {n r : Nat} {σ ρ : sS} (h : bH B C (n + 1) r σ ρ) (hn : n < 7) (hB0 : 0 ≤ B) (hC0 : 0 ≤ C) (hB : B ≤ 20000000) (hC : C ≤ 20000000) : bH B C n r (f_X2_flowStep σ r n) (g_X5_flowStep ρ n) := by
  have pn := (h n (by omega)).1 (by omega)
  have pm := (h (n + 1) (by omega)).1 (by omega)
  have Ln := te_level pn.f0 pn.g0 pn.e1 pn.l1
  have Lm := te_level pm.f0 pm.g0 pm.e1 pm.l1
  have n1 := pn.l1
  have n2 := pn.u1
  have m1 := pm.l1
  have m2 := pm.u1
  have hdown := bH_down h hB0 hC0
  have eg := pm.eg
  unfold f_X2_flowStep g_X5_flowStep
  by_cases c1 : σ (5 + 8 * r + (n + 1)) 9 = 0
  · rw [if_pos c1, if_pos (by rw [← eg]; exact c1)]
    exact hdown
  · have c1' : ¬ ρ (2 + (n + 1)) 8 = 0 := by rw [← eg]; exact c1
    rw [if_neg c1, if_neg c1', ← Ln.1, ← Lm.1]
    have aD : (f_X1_level (σ (5 + 8 * r + n)) - f_X1_level (σ (5 + 8 * r + (n + 1)))).toInt = (σ (5 + 8 * r + n) 1).toInt / 3 - (σ (5 + 8 * r + (n + 1)) 1).toInt / 3 := by rw [ti_sub (by omega) (by omega), Ln.2, Lm.2]
    by_cases c2 : f_X1_level (σ (5 + 8 * r + n)) - f_X1_level (σ (5 + 8 * r + (n + 1))) ≤ 0
    · rw [if_pos c2, if_pos c2]
      exact hdown
    · rw [if_neg c2, if_neg c2]
      have c3 := mt ti_le.mpr c2
      rw [show (0 : Int32).toInt = 0 from rfl] at c3
      generalize f_X1_level (σ (5 + 8 * r + n)) - f_X1_level (σ (5 + 8 * r + (n + 1))) = d at aD c3 ⊢
      have e33 : f_min (3 : Int32) 3 = 3 := rfl
      have e2 : (2 : Int32).toInt = 2 := rfl
      have am : (d * 3).toInt = d.toInt * 3 := by rw [ti_mul (by rw [ti_3]; omega) (by rw [ti_3]; omega), ti_3]
      have ax : (d * 3 / 2).toInt = d.toInt * 3 / 2 := by rw [ti_div (by omega) (by decide), am, e2]
      have ep : f_X3_portion d.toInt64 (f_min (σ (5 + 8 * r + n) 0) (σ (5 + 8 * r + (n + 1)) 0)).toInt64 2 = d * 3 / 2 := by
        rw [pn.f0, pm.f0, e33]
        have q := tp_share (x := d) (y := 3) (z := 2) (by decide)
        have q2 := tp_val (x := d) (y := 3) (z := 2) (by omega) (by decide) (by decide) (by rw [ti_3, e2]; omega)
        rw [ti_3, e2] at q2
        apply ti_eq
        rw [ax, ← q2, ← q]
        rfl
      have eg2 : d * f_min (ρ (2 + n) 0) (ρ (2 + (n + 1)) 0) / 2 = d * 3 / 2 := by rw [pn.g0, pm.g0, e33]
      rw [ep, eg2]
      generalize d * 3 / 2 = x at ax ⊢
      have hx0 : 0 ≤ x.toInt := by omega
      have hx2 : 2 * x.toInt ≤ (σ (5 + 8 * r + n) 1).toInt := by omega
      have hb1 : 1 ≤ (σ (5 + 8 * r + n) 1).toInt := by omega
      have s2 := ts_half pn.l2 hx0 hb1 hx2
      have s4 := ts_half pn.l4 hx0 hb1 hx2
      have e2' := tp_share (x := σ (5 + 8 * r + n) 2) (y := x) (z := σ (5 + 8 * r + n) 1) pn.l1
      have e3' := tp_share (x := σ (5 + 8 * r + n) 3) (y := x) (z := σ (5 + 8 * r + n) 1) pn.l1
      have e4' := tp_share (x := σ (5 + 8 * r + n) 4) (y := x) (z := σ (5 + 8 * r + n) 1) pn.l1
      have u2 := pn.u2
      have l6 := pn.l6
      have u4 := pn.u4
      intro j hj
      unfold f_X1_giveBrine g_X4_give
      rw [e2', e3', e4', ← pn.e2, ← pn.e1, ← pn.e4]
      rw [va_up_ne σ _ (show 5 + 8 * r + (n + 1) ≠ 5 + 8 * r + n by omega)]
      by_cases ej : j = n + 1
      · subst ej
        refine ⟨fun q => absurd q (by omega), fun _ => ?_⟩
        rw [va_up_self, va_up_self]
        exact eP_in pm hx0 s2.1 s4.1 (by omega) (by omega) (by omega) (by omega) (by omega)
      · rw [va_up_ne _ _ (show 5 + 8 * r + j ≠ 5 + 8 * r + (n + 1) by omega), va_up_ne _ _ (show 2 + j ≠ 2 + (n + 1) by omega)]
        by_cases ei : j = n
        · subst ei
          refine ⟨fun _ => ?_, fun q => absurd q (by omega)⟩
          rw [va_up_self, va_up_self]
          exact eP_out pn hx0 (by omega) s2.1 (by omega) s4.1 (by omega)
        · rw [va_up_ne _ _ (show 5 + 8 * r + j ≠ 5 + 8 * r + n by omega), va_up_ne _ _ (show 2 + j ≠ 2 + n by omega)]
          exact hdown j hj
theorem eS_flow {B C : Int} {r : Nat} (hB0 : 0 ≤ B) (hC0 : 0 ≤ C) (hB : B ≤ 20000000) (hC : C ≤ 20000000) : ∀ (n : Nat) (σ ρ : sS), n ≤ 7 → bH B C n r σ ρ → bB (B + B) (C + C) r (f_X2_flow r n σ) (g_X5_flow n ρ)
  | 0, σ, ρ, _, h => fun j hj => by
    by_cases e : j = 0
    · exact eP_mono ((h j hj).1 (by omega)) (by omega) (by omega)
    · exact (h j hj).2 (by omega)
  | n + 1, σ, ρ, hn, h => eS_flow hB0 hC0 hB hC n _ _ (by omega) (eS_flowStep h (by omega) hB0 hC0 hB hC)
/-- a day without rain, side by side -/
theorem eS_day {B C : Int} {r : Nat} {σ ρ : sS} {x y : Int32} (h : bB B C r σ ρ) (hd : σ (1 + r) 1 = ρ 0 1) (h0 : 0 ≤ (ρ 0 1).toInt) (h1 : (ρ 0 1).toInt < 100000) (hB0 : 0 ≤ B) (hC0 : 0 ≤ C) (hB : B ≤ 10000000) (hC : C ≤ 10000000) (s0 : 0 ≤ (x + y).toInt) (s1 : (x + y).toInt ≤ 18) : bB (2 * (B + 67)) (2 * (C + 2010)) r (f_X2_letDayGoBy σ r x y 0) (g_X5_day ρ x y 0) ∧ f_X2_letDayGoBy σ r x y 0 (1 + r) 1 = g_X5_day ρ x y 0 0 1 ∧ (g_X5_day ρ x y 0 0 1).toInt = (ρ 0 1).toInt + 1 := by
  have e1 : (1 : Int32).toInt = 1 := rfl
  have ad : (ρ 0 1 + 1).toInt = (ρ 0 1).toInt + 1 := by rw [ti_add (by rw [e1]; omega) (by rw [e1]; omega), e1]
  have es : f_X2_start σ r x y (1 + r) 1 = ρ 0 1 + 1 := by
    unfold f_X2_start
    simp only [va_up_self]
    show σ (1 + r) 1 + 1 = _
    rw [hd]
  have eg : g_X5_start ρ 0 1 = ρ 0 1 + 1 := by unfold g_X5_start; rw [va_up_self]; rfl
  have a1 := eS_sea (eS_start (x := x) (y := y) h) (es.trans eg.symm) (by rw [eg]; omega) (by rw [eg]; omega) hB hC
  have a2 := eS_flow (B := B + 67) (C := C + 2010) (r := r) (by omega) (by omega) (by omega) (by omega) 7 (f_X2_letSeaIn (f_X2_start σ r x y) r) (g_X5_seaStep (g_X5_start ρ)) (Nat.le_refl _) (fun j hj => ⟨fun _ => a1 j hj, fun q => absurd q (by omega)⟩)
  refine ⟨fun j hj => ?_, ?_, ?_⟩
  · rw [dy_at hj, my_at hj]
    exact eP_mono (eP_day (a2 j hj) (by omega) s0 s1) (by omega) (by omega)
  · rw [dy_day, my_day, hd]
  · rw [my_day, ad]
def nB : Nat → Int
  | 0 => 0
  | n + 1 => 2 * (nB n + 67)
def nC : Nat → Int
  | 0 => 0
  | n + 1 => 2 * (nC n + 2010)
theorem nBC {n : Nat} (h : n ≤ 9) : 0 ≤ nB n ∧ nB n ≤ 10000000 ∧ 0 ≤ nC n ∧ nC n ≤ 10000000 := by
  rcases (show n = 0 ∨ n = 1 ∨ n = 2 ∨ n = 3 ∨ n = 4 ∨ n = 5 ∨ n = 6 ∨ n = 7 ∨ n = 8 ∨ n = 9 by omega) with rfl | rfl | rfl | rfl | rfl | rfl | rfl | rfl | rfl | rfl <;> decide
theorem eS_days {r : Nat} {x y : Int32} (s0 : 0 ≤ (x + y).toInt) (s1 : (x + y).toInt ≤ 18) : ∀ (m n : Nat) (σ ρ : sS), n + m ≤ 9 → bB (nB n) (nC n) r σ ρ → σ (1 + r) 1 = ρ 0 1 → (ρ 0 1).toInt = n → bB (nB (n + m)) (nC (n + m)) r (f_X3_days r x y 0 m σ) (g_X6_days x y 0 m ρ)
  | 0, n, σ, ρ, _, h, _, _ => h
  | m + 1, n, σ, ρ, hm, h, hd, ht => by
    have b := nBC (n := n) (by omega)
    have k := eS_day (x := x) (y := y) h hd (by omega) (by omega) b.1 b.2.2.1 b.2.1 b.2.2.2 s0 s1
    have e := eS_days s0 s1 m (n + 1) (f_X2_letDayGoBy σ r x y 0) (g_X5_day ρ x y 0) (by omega) k.1 k.2.1 (by rw [k.2.2, ht]; rfl)
    rw [show n + (m + 1) = n + 1 + m by omega]
    exact e
/-! The new objects, side by side. -/
/-- as new, but for what the class keeps for trying -/
def cF (σ : sS) : Prop := ∀ i, sO 1 i → σ i = f_new i
theorem cF_new : cF f_new := fun _ _ => rfl
theorem cF_p {σ : sS} (h : cF σ) {j : Nat} (hj : j < 8) : σ (5 + 8 * 0 + j) = f_new (5 + 8 * 0 + j) := h _ ⟨by omega, Or.inl (by omega)⟩
theorem fn_0 {j : Nat} (hj : j < 16) : f_new (5 + j) 0 = 3 := by
  unfold f_new
  rw [if_pos (by omega)]
theorem fn_8 {j : Nat} (hj : j < 8) : f_new (5 + 8 * 0 + j) 0 = 3 := by
  unfold f_new
  rw [if_pos (by omega)]
theorem fn_k {i k : Nat} (hk : k ≠ 0) : f_new i k = 0 := by
  unfold f_new
  rw [if_neg (by omega)]
theorem fn_z {i k : Nat} (hi : i < 5 ∨ 21 ≤ i) : f_new i k = 0 := by
  unfold f_new
  rw [if_neg (by omega)]
theorem nP_new {j : Nat} (hj : j < 8) : nP 0 (f_new (5 + 8 * 0 + j)) := ⟨fn_8 hj, by rw [fn_k (by decide)]; decide, by rw [fn_k (by decide)]; decide, by rw [fn_k (by decide), fn_k (by decide)]; decide, fn_k (by decide), fn_k (by decide), fn_k (by decide), fn_k (by decide)⟩
theorem nX_new {σ : sS} (h : cF σ) : nX 0 0 σ := fun j hj => by
  rw [cF_p h hj]
  exact ⟨nP_new hj, fn_k (by decide), fn_k (by decide)⟩
theorem nP_fr {ρ : sS} (h : mFr ρ) {j : Nat} (hj : j < 8) : nP 0 (ρ (2 + j)) := by
  have z : ∀ q, 1 ≤ q → q < 10 → ρ (2 + j) q = 0 := h.1 j hj
  exact ⟨h.2.1 j hj, by rw [z 1 (by decide) (by decide)]; decide, by rw [z 5 (by decide) (by decide)]; decide, by rw [z 1 (by decide) (by decide), z 5 (by decide) (by decide)]; decide, z 2 (by decide) (by decide), z 3 (by decide) (by decide), z 4 (by decide) (by decide), z 6 (by decide) (by decide)⟩
theorem nM_fr {ρ : sS} (h : mFr ρ) : nM 0 ρ := fun j hj => ⟨nP_fr h hj, h.1 j hj 8 (by decide) (by decide), h.1 j hj 9 (by decide) (by decide)⟩
theorem cp_out {i : Nat} : ∀ (n k : Nat) (σ : sS), i < 13 + k → f_X2_cp n k σ i = σ i
  | 0, _, _, _ => rfl
  | n + 1, k, σ, h => (cp_out n (k + 1) _ (by omega)).trans (va_up_ne _ _ (by omega))
theorem cp_at {j : Nat} (hj : j < 8) : ∀ (n k : Nat) (σ : sS), k ≤ j → j < k + n → f_X2_cp n k σ (5 + 8 * 1 + j) = σ (5 + 8 * 0 + j)
  | 0, k, _, h1, h2 => absurd h2 (by omega)
  | n + 1, k, σ, h1, h2 => by
    show f_X2_cp n (k + 1) (va_up σ (5 + 8 * 1 + k) (σ (5 + 8 * 0 + k))) (5 + 8 * 1 + j) = _
    by_cases e : j = k
    · subst e
      rw [cp_out n (j + 1) _ (by omega), va_up_self]
    · rw [cp_at hj n (k + 1) _ (by omega) (by omega), va_up_ne _ _ (by omega)]
theorem cp_pond {σ : sS} {j : Nat} (hj : j < 8) : f_X2_copyFrom σ (5 + 8 * 1 + j) = σ (5 + 8 * 0 + j) := by
  unfold f_X2_copyFrom
  rw [cp_at hj 8 0 _ (by omega) (by omega), va_up_ne _ _ (by omega)]
theorem cp_row {σ : sS} : f_X2_copyFrom σ (1 + 1) = σ 1 := by
  unfold f_X2_copyFrom
  rw [cp_out 8 0 _ (by omega)]
  exact va_up_self _ _ _
theorem gc_out {σ : sS} {i : Nat} : ∀ (n k : Nat) (τ : sS), i < 2 + k → g_cp σ n k τ i = τ i
  | 0, _, _, _ => rfl
  | n + 1, k, τ, h => (gc_out n (k + 1) _ (by omega)).trans (va_up_ne _ _ (by omega))
theorem gc_at {σ : sS} {j : Nat} : ∀ (n k : Nat) (τ : sS), k ≤ j → j < k + n → g_cp σ n k τ (2 + j) = upd (σ (2 + j)) 10 (-1)
  | 0, k, _, h1, h2 => absurd h2 (by omega)
  | n + 1, k, τ, h1, h2 => by
    show g_cp σ n (k + 1) (va_up τ (2 + k) (upd (σ (2 + k)) 10 (-1))) (2 + j) = _
    by_cases e : j = k
    · subst e
      rw [gc_out n (j + 1) _ (by omega), va_up_self]
    · exact gc_at n (k + 1) _ (by omega) (by omega)
theorem gc_pond {σ : sS} {j : Nat} (hj : j < 8) : g_copy σ (2 + j) = upd (σ (2 + j)) 10 (-1) := by
  unfold g_copy
  rw [va_up_ne _ _ (by omega), gc_at 8 0 _ (by omega) (by omega)]
theorem gc_day {σ : sS} : g_copy σ 0 1 = σ 0 1 := by
  unfold g_copy
  rw [va_up_self]
  rfl
theorem nX_copy {n : Int} {σ : sS} (h : nX n 0 σ) : nX n 1 (f_X2_copyFrom σ) := fun j hj => by
  rw [cp_pond hj]
  exact h j hj
theorem nM_copy {n : Int} {ρ : sS} (h : nM n ρ) : nM n (g_copy ρ) := fun j hj => by
  rw [gc_pond hj]
  have k := h j hj
  exact ⟨⟨k.1.f0, k.1.l1, k.1.l5, k.1.u, k.1.z2, k.1.z3, k.1.z4, k.1.z6⟩, k.2.1, k.2.2⟩
theorem nX_crust {x y : Int32} {q : Nat} (hq : q < 3) (s0 : 0 ≤ (x + y).toInt) (s1 : (x + y).toInt ≤ 18) : ∀ (m k : Nat) (n : Int) (σ : sS), n + m ≤ 1000000 → nX n 1 σ → f_X3_crustV q x y m k σ = -1
  | 0, _, _, _, _, _ => rfl
  | m + 1, k, n, σ, hb, h => by
    have d := nX_day (z := 0) h (by omega) s0 s1 (by decide) (by decide)
    show (if f_X2_letDayGoBy σ 1 x y 0 (5 + 8 * 1 + (5 + q)) 8 ≤ 0 then f_X3_crustV q x y m (k + 1) (f_X2_letDayGoBy σ 1 x y 0) else nI k) = -1
    rw [d.2 (5 + q) (by omega), if_pos (by decide)]
    exact nX_crust hq s0 s1 m (k + 1) (n + 1) _ (by omega) d.1
theorem nM_crust {x y : Int32} {q : Nat} (hq : q < 3) (s0 : 0 ≤ (x + y).toInt) (s1 : (x + y).toInt ≤ 18) : ∀ (m k : Nat) (n : Int) (ρ : sS), n + m ≤ 1000000 → nM n ρ → g_X6_crustV q x y m k ρ = -1
  | 0, _, _, _, _, _ => rfl
  | m + 1, k, n, ρ, hb, h => by
    have d := nM_day (z := 0) h (by omega) s0 s1 (by decide) (by decide)
    show (if g_X5_made ρ x y 0 (5 + q) ≤ 0 then g_X6_crustV q x y m (k + 1) (g_X5_day ρ x y 0) else nI k) = -1
    rw [d.2 (5 + q) (by omega), if_pos (by decide)]
    exact nM_crust hq s0 s1 m (k + 1) (n + 1) _ (by omega) d.1
theorem q_crustX {σ : sS} (h : cF σ) {x y : Int32} {q : Nat} (hq : q < 3) (s0 : 0 ≤ (x + y).toInt) (s1 : (x + y).toInt ≤ 18) : f_X3_crustInV σ q x y = -1 := nX_crust hq s0 s1 60 1 0 _ (by decide) (nX_copy (nX_new h))
theorem q_crustM {ρ : sS} (h : mFr ρ) {x y : Int32} {q : Nat} (hq : q < 3) (s0 : 0 ≤ (x + y).toInt) (s1 : (x + y).toInt ≤ 18) : g_X6_crustB ρ q x y = -1 := nM_crust hq s0 s1 60 1 0 _ (by decide) (nM_copy (nM_fr h))
theorem gt_out {r i : Nat} {x : Int32} : ∀ (n k : Nat) (σ : sS), i < 5 + 8 * r + k → f_X2_gates r x n k σ i = σ i
  | 0, _, _, _ => rfl
  | n + 1, k, σ, h => (gt_out n (k + 1) _ (by omega)).trans (va_up_ne _ _ (by omega))
theorem gt_at {r j : Nat} {x : Int32} : ∀ (n k : Nat) (σ : sS), k ≤ j → j < k + n → f_X2_gates r x n k σ (5 + 8 * r + j) = upd (σ (5 + 8 * r + j)) 9 (f_bit x j)
  | 0, k, _, h1, h2 => absurd h2 (by omega)
  | n + 1, k, σ, h1, h2 => by
    show f_X2_gates r x n (k + 1) (va_up σ (5 + 8 * r + k) (upd (σ (5 + 8 * r + k)) 9 (f_bit x k))) (5 + 8 * r + j) = _
    by_cases e : j = k
    · subst e
      rw [gt_out n (j + 1) _ (by omega), va_up_self]
    · rw [gt_at n (k + 1) _ (by omega) (by omega), va_up_ne _ _ (by omega)]
theorem gg_out {i : Nat} {x : Int32} : ∀ (n k : Nat) (σ : sS), i < 2 + k → g_gates x n k σ i = σ i
  | 0, _, _, _ => rfl
  | n + 1, k, σ, h => (gg_out n (k + 1) _ (by omega)).trans (va_up_ne _ _ (by omega))
theorem gg_at {j : Nat} {x : Int32} : ∀ (n k : Nat) (σ : sS), k ≤ j → j < k + n → g_gates x n k σ (2 + j) = upd (σ (2 + j)) 8 (f_bit x j)
  | 0, k, _, h1, h2 => absurd h2 (by omega)
  | n + 1, k, σ, h1, h2 => by
    show g_gates x n (k + 1) (va_up σ (2 + k) (upd (σ (2 + k)) 8 (f_bit x k))) (2 + j) = _
    by_cases e : j = k
    · subst e
      rw [gg_out n (j + 1) _ (by omega), va_up_self]
    · rw [gg_at n (k + 1) _ (by omega) (by omega), va_up_ne _ _ (by omega)]
theorem q_with {σ ρ : sS} (h : cF σ) (hm : mFr ρ) {g d : Nat} (hd : d ≤ 9) {x y : Int32} (s0 : 0 ≤ (x + y).toInt) (s1 : (x + y).toInt ≤ 18) : f_X3_withV σ g d x y = g_X6_withV ρ g d x y := by
  have b0 : bB (nB 0) (nC 0) 1 (f_X2_setGates (f_X2_copyFrom σ) 1 (nI g)) (g_gates (nI g) 8 0 (g_copy ρ)) := fun j hj => by
    have z : ∀ q, 1 ≤ q → q < 10 → ρ (2 + j) q = 0 := hm.1 j hj
    unfold f_X2_setGates
    rw [gt_at 8 0 _ (by omega) (by omega), cp_pond hj, cF_p h hj, gg_at 8 0 _ (by omega) (by omega), gc_pond hj]
    have f0 : f_new (5 + 8 * 0 + j) 0 = 3 := fn_8 hj
    have fk : ∀ k, k ≠ 0 → f_new (5 + 8 * 0 + j) k = 0 := fun k hk => fn_k hk
    exact ⟨f0, hm.2.1 j hj, (fk 1 (by decide)).trans (z 1 (by decide) (by decide)).symm, (fk 2 (by decide)).trans (z 2 (by decide) (by decide)).symm, (fk 4 (by decide)).trans (z 4 (by decide) (by decide)).symm, (fk 6 (by decide)).trans (z 6 (by decide) (by decide)).symm, fk 5 (by decide), z 5 (by decide) (by decide), rfl, fk 10 (by decide), z 9 (by decide) (by decide), by show 0 ≤ (f_new (5 + 8 * 0 + j) 1).toInt; rw [fk 1 (by decide)]; decide, by show (f_new (5 + 8 * 0 + j) 1).toInt ≤ _; rw [fk 1 (by decide)]; decide, by show 0 ≤ (f_new (5 + 8 * 0 + j) 2).toInt; rw [fk 2 (by decide)]; decide, by show 0 ≤ (f_new (5 + 8 * 0 + j) 4).toInt; rw [fk 4 (by decide)]; decide, by show 0 ≤ (f_new (5 + 8 * 0 + j) 6).toInt; rw [fk 6 (by decide)]; decide, by show (f_new (5 + 8 * 0 + j) 2).toInt + (f_new (5 + 8 * 0 + j) 6).toInt ≤ _; rw [fk 2 (by decide), fk 6 (by decide)]; decide, by show (f_new (5 + 8 * 0 + j) 4).toInt ≤ _; rw [fk 4 (by decide)]; decide⟩
  have d1 : f_X2_setGates (f_X2_copyFrom σ) 1 (nI g) (1 + 1) 1 = 0 := by
    unfold f_X2_setGates
    rw [gt_out 8 0 _ (by omega), cp_row, h 1 ⟨by decide, Or.inl (by decide)⟩]
    rfl
  have d2 : g_gates (nI g) 8 0 (g_copy ρ) 0 1 = 0 := by
    rw [gg_out 8 0 _ (by omega), gc_day]
    exact hm.2.2.2.1
  have k := eS_days (r := 1) s0 s1 d 0 _ _ (by omega) b0 (d1.trans d2.symm) (by rw [d2]; rfl)
  have k5 := k 5 (by omega)
  have k6 := k 6 (by omega)
  have k7 := k 7 (by omega)
  unfold f_X3_withV f_X3_withS g_X6_withV
  generalize f_X3_days 1 x y 0 d (f_X2_setGates (f_X2_copyFrom σ) 1 (nI g)) = τ at k5 k6 k7 ⊢
  generalize g_X6_days x y 0 d (g_gates (nI g) 8 0 (g_copy ρ)) = υ at k5 k6 k7 ⊢
  show (((0 : Int32) + (τ (5 + 8 * 1 + 5) 2 + τ (5 + 8 * 1 + 5) 6)) + (τ (5 + 8 * 1 + 6) 2 + τ (5 + 8 * 1 + 6) 6)) + (τ (5 + 8 * 1 + 7) 2 + τ (5 + 8 * 1 + 7) 6) = (((0 : Int32) + (υ (2 + 5) 2 + υ (2 + 5) 6)) + (υ (2 + 6) 2 + υ (2 + 6) 6)) + (υ (2 + 7) 2 + υ (2 + 7) 6)
  rw [k5.e2, k5.e6, k6.e2, k6.e6, k7.e2, k7.e6]
theorem cF_with {σ : sS} (h : cF σ) {g d : Nat} {x y : Int32} : cF (f_X3_withS σ g d x y) := fun i hi => (k_with hi).trans (h i hi)
theorem q_bestB {ρ : sS} (hm : mFr ρ) {d : Nat} (hd : d ≤ 9) {x y : Int32} (s0 : 0 ≤ (x + y).toInt) (s1 : (x + y).toInt ≤ 18) : ∀ (n k : Nat) (σ : sS) (b m : Int32), cF σ → f_X3_bestB d x y n k σ b m = g_bestB ρ d x y n k b m
  | 0, _, _, _, _, _ => rfl
  | n + 1, k, σ, b, m, h => by
    have e := q_with h hm (g := k) hd s0 s1
    show f_X3_bestB d x y n (k + 1) (f_X3_withS σ k d x y) (if f_X3_withV σ k d x y ≤ m then b else nI k) (if f_X3_withV σ k d x y ≤ m then m else f_X3_withV σ k d x y) = (if m < g_X6_withV ρ k d x y then g_bestB ρ d x y n (k + 1) (nI k) (g_X6_withV ρ k d x y) else g_bestB ρ d x y n (k + 1) b m)
    rw [q_bestB hm hd s0 s1 n (k + 1) _ _ _ (cF_with h), e]
    by_cases c : g_X6_withV ρ k d x y ≤ m
    · have c2 : ¬ m < g_X6_withV ρ k d x y := fun q => by
        have a := ti_le.mp c
        have b := ti_lt.mp q
        omega
      rw [if_pos c, if_pos c, if_neg c2]
    · have c2 : m < g_X6_withV ρ k d x y := ti_lt.mpr (by
        have a := mt ti_le.mpr c
        omega)
      rw [if_neg c, if_neg c, if_pos c2]
theorem q_best {σ ρ : sS} (h : cF σ) (hm : mFr ρ) {d : Nat} (hd : d ≤ 9) {x y : Int32} (s0 : 0 ≤ (x + y).toInt) (s1 : (x + y).toInt ≤ 18) : f_X3_bestGates σ d x y = g_X6_best ρ d x y := q_bestB hm hd s0 s1 256 0 σ 0 (-1) h
theorem q_tide {σ : sS} (h : cF σ) (x k : Int32) : ∀ (n j : Nat), f_X3_tideV x k n j σ = g_X6_tideV x k n j
  | 0, _ => rfl
  | n + 1, j => by
    have e : σ (1 + 0) 1 + nI j = nI j := by
      rw [h (1 + 0) ⟨by decide, Or.inl (by decide)⟩]
      exact Int32.zero_add _
    show (if k = 0 then (if x < f_X3_tideAt (σ (1 + 0) 1 + nI j) then f_X3_tideV x k n (j + 1) σ else σ (1 + 0) 1 + nI j) else (if f_X3_tideAt (σ (1 + 0) 1 + nI j) < x then f_X3_tideV x k n (j + 1) σ else σ (1 + 0) 1 + nI j)) = _
    rw [e, q_tide h x k n (j + 1)]
    rfl
theorem q_tideOn {σ : sS} (h : cF σ) (x k : Int32) : f_X3_tideOn σ x k = g_X6_tideV x k 14 0 := q_tide h x k 14 0
theorem q_tellX {j w : Nat} (hj : j < 8) (hw : w < 11) : f_X1_read (f_new (5 + 8 * 0 + j)) w = if w = 0 then 3 else 0 := by
  have f0 : f_new (5 + 8 * 0 + j) 0 = 3 := fn_8 hj
  have fk : ∀ k, k ≠ 0 → f_new (5 + 8 * 0 + j) k = 0 := fun k hk => fn_k hk
  rcases m_lt11 hw with rfl | rfl | rfl | rfl | rfl | rfl | rfl | rfl | rfl | rfl | rfl
  · exact f0
  · exact fk 1 (by decide)
  · exact fk 2 (by decide)
  · exact fk 3 (by decide)
  · exact fk 4 (by decide)
  · exact fk 5 (by decide)
  · exact fk 6 (by decide)
  · exact fk 7 (by decide)
  · show f_X1_level _ = 0
    unfold f_X1_level
    rw [f0, fk 1 (by decide)]
    decide
  · show f_X1_strength _ = 0
    unfold f_X1_strength
    rw [fk 1 (by decide), fk 2 (by decide), fk 4 (by decide)]
    decide
  · show f_X1_harv _ = 0
    unfold f_X1_harv
    rw [fk 11 (by decide)]
    rfl
theorem q_tellM {ρ : sS} (hm : mFr ρ) {j w : Nat} (hj : j < 8) (hw : w < 11) : g_tell (ρ (2 + j)) w = if w = 0 then 3 else 0 := by
  have z : ∀ q, 1 ≤ q → q < 10 → ρ (2 + j) q = 0 := hm.1 j hj
  rcases m_lt11 hw with rfl | rfl | rfl | rfl | rfl | rfl | rfl | rfl | rfl | rfl | rfl
  · exact hm.2.1 j hj
  · exact z 1 (by decide) (by decide)
  · exact z 2 (by decide) (by decide)
  · exact z 3 (by decide) (by decide)
  · exact z 4 (by decide) (by decide)
  · exact z 5 (by decide) (by decide)
  · exact z 6 (by decide) (by decide)
  · exact z 7 (by decide) (by decide)
  · show g_X4_level _ = 0
    unfold g_X4_level
    rw [hm.2.1 j hj, z 1 (by decide) (by decide)]
    decide
  · show g_X4_strength _ = 0
    unfold g_X4_strength
    rw [if_pos (z 1 (by decide) (by decide))]
  · rfl
theorem q_gsum {σ : sS} (h : cF σ) : ∀ (n k : Nat) (v : Int32), k + n ≤ 8 → f_X2_gsum 0 σ n k v = v
  | 0, _, _, _ => rfl
  | n + 1, k, v, hk => by
    show f_X2_gsum 0 σ n (k + 1) (v + f_gbit (σ (5 + 8 * 0 + k) 9) k) = v
    rw [cF_p h (by omega), fn_k (by decide), show f_gbit 0 k = 0 from if_pos rfl, Int32.add_zero]
    exact q_gsum h n (k + 1) v (by omega)
theorem q_csum {σ : sS} (h : cF σ) : ∀ (n k : Nat) (v : Int32), k + n ≤ 8 → f_X2_csum 0 σ n k v = v
  | 0, _, _, _ => rfl
  | n + 1, k, v, hk => by
    show f_X2_csum 0 σ n (k + 1) (v + f_gbit (σ (5 + 8 * 0 + k) 10) k) = v
    rw [cF_p h (by omega), fn_k (by decide), show f_gbit 0 k = 0 from if_pos rfl, Int32.add_zero]
    exact q_csum h n (k + 1) v (by omega)
theorem q_psum {σ : sS} (h : cF σ) {w : Nat} (h0 : w ≠ 0) (hw : w < 11) : ∀ (n k : Nat) (v : Int32), k + n ≤ 8 → f_X2_psum w 0 σ n k v = v
  | 0, _, _, _ => rfl
  | n + 1, k, v, hk => by
    show f_X2_psum w 0 σ n (k + 1) (v + f_X1_read (σ (5 + 8 * 0 + k)) w) = v
    rw [cF_p h (by omega), q_tellX (by omega) hw, if_neg h0, Int32.add_zero]
    exact q_psum h h0 hw n (k + 1) v (by omega)
theorem q_many {σ : sS} (h : cF σ) {k : Nat} : f_X3_many σ 0 k = 0 := by
  have z0 : σ 0 = f_new 0 := h 0 ⟨by decide, Or.inl (by decide)⟩
  have z1 : σ (1 + 0) = f_new 1 := h 1 ⟨by decide, Or.inl (by decide)⟩
  have y : ∀ q, σ 0 q = 0 := fun q => by rw [z0]; exact fn_z (Or.inl (by decide))
  have y1 : ∀ q, σ (1 + 0) q = 0 := fun q => by rw [z1]; exact fn_z (Or.inl (by decide))
  have p : ∀ w, w ≠ 0 → w < 11 → f_X2_sumOfPonds σ 0 w = 0 := fun w h0 hw => q_psum h h0 hw 8 0 0 (by decide)
  match k with
  | 0 => exact y1 1
  | 1 => exact y 3
  | 2 => exact q_gsum h 8 0 0 (by decide)
  | 3 => exact q_csum h 8 0 0 (by decide)
  | 4 => exact y1 4
  | 5 => exact p 2 (by decide) (by decide)
  | 6 => exact p 6 (by decide) (by decide)
  | 7 => rfl
  | 8 => rfl
  | 9 => exact y 5
  | 10 => exact y 6
  | 11 => exact y 7
  | 12 => exact p 7 (by decide) (by decide)
  | 13 => exact y 8
  | 14 => exact p 1 (by decide) (by decide)
  | 15 => exact p 5 (by decide) (by decide)
  | 16 => exact y 4
  | k + 17 => exact y 9
theorem q_dgM {σ : sS} (h : cF σ) : ∀ (n k : Nat) (d : Int64), f_dgM σ 0 n k d = g_dgM n d
  | 0, _, _ => rfl
  | n + 1, k, d => by
    show f_dgM σ 0 n (k + 1) (d * 31 + (f_X3_many σ 0 k).toInt64) = g_dgM n (g_X6_add d (0 : Int32).toInt64)
    rw [q_many h]
    exact q_dgM h n (k + 1) _
theorem q_dgR {ρ : sS} (hm : mFr ρ) {j : Nat} (hj : j < 8) : ∀ (n k : Nat) (d : Int64), k + n ≤ 11 → f_dgR (f_new (5 + 8 * 0 + j)) n k d = g_dgR (ρ (2 + j)) n k d
  | 0, _, _, _ => rfl
  | n + 1, k, d, hk => by
    show f_dgR (f_new (5 + 8 * 0 + j)) n (k + 1) (d * 31 + (f_X1_read (f_new (5 + 8 * 0 + j)) k).toInt64) = g_dgR (ρ (2 + j)) n (k + 1) (d * 31 + (g_tell (ρ (2 + j)) k).toInt64)
    rw [q_tellX hj (by omega), q_tellM hm hj (by omega)]
    exact q_dgR hm hj n (k + 1) _ (by omega)
theorem q_dgP {σ ρ : sS} (h : cF σ) (hm : mFr ρ) : ∀ (n k : Nat) (d : Int64), k + n ≤ 8 → f_dgP σ n k d = g_dgP ρ n k d
  | 0, _, _, _ => rfl
  | n + 1, k, d, hk => by
    show f_dgP σ n (k + 1) (f_dgR (σ (5 + 8 * 0 + k)) 11 0 d) = g_dgP ρ n (k + 1) (g_dgR (ρ (2 + k)) 11 0 d)
    rw [cF_p h (by omega), q_dgR hm (by omega) 11 0 d (by decide)]
    exact q_dgP h hm n (k + 1) _ (by omega)
theorem cF_crust {σ : sS} (h : cF σ) {q : Nat} {x y : Int32} : cF (f_X3_crustIn σ q x y) := fun i hi => (k_crustIn hi).trans (h i hi)
theorem q_dgC {ρ : sS} (hm : mFr ρ) : ∀ (n k : Nat) (σ : sS) (d : Int64), k + n ≤ 3 → cF σ → f_dgC n k σ d = g_dgC ρ n k d
  | 0, _, _, _, _, _ => rfl
  | n + 1, k, σ, d, hk, h => by
    show f_dgC n (k + 1) (f_X3_crustIn σ k 7 3) (d * 31 + (f_X3_crustInV σ k 7 3).toInt64) = g_dgC ρ n (k + 1) (d * 31 + (g_X6_crustB ρ k 7 3).toInt64)
    rw [q_crustX h (by omega) (by decide) (by decide), q_crustM hm (by omega) (by decide) (by decide)]
    exact q_dgC hm n (k + 1) _ _ (by omega) (cF_crust h)
theorem cF_dgS {σ : sS} (h : cF σ) : cF (f_dgS 3 0 σ) := fun i hi => (k_dgS hi 3 0 σ).trans (h i hi)
theorem cF_digS {σ : sS} (h : cF σ) : cF (f_X3_digestS σ) := fun i hi => (k_bestS hi 256 0 _).trans (cF_dgS h i hi)
/-- the checksums are the same -/
theorem q_digest {σ ρ : sS} (h : cF σ) (hm : mFr ρ) : f_X3_digest σ 0 = g_X6_digest ρ := by
  unfold f_X3_digest g_X6_digest g_X6_add
  rw [q_dgC hm 3 0 _ _ (by decide) h, q_best (cF_dgS h) hm (by decide) (by decide) (by decide), q_tideOn (cF_digS h), q_tideOn (cF_digS h)]
  show ((g_dgC ρ 3 0 (f_dgP σ 8 0 (f_dgM σ 0 18 0 7804)) * 31 + _) * 31 + _) * 31 + _ = _
  rw [q_dgP h hm 8 0 _ (by decide), q_dgM h]
theorem q_fellX {x y z : Int32} (s0 : 0 ≤ (x + y).toInt) (s1 : (x + y).toInt ≤ 18) (h0 : 0 ≤ z.toInt) (h1 : z.toInt ≤ 40) {n : Nat} (hn : n ≤ 1000) : f_X3_fell x y z n f_new 0 = 0 := nX_fell (r := 0) rfl s0 s1 h0 h1 n 0 _ _ (by omega) (nX_new cF_new)
theorem q_fellM {ρ : sS} (hm : mFr ρ) {x y z : Int32} (s0 : 0 ≤ (x + y).toInt) (s1 : (x + y).toInt ≤ 18) (h0 : 0 ≤ z.toInt) (h1 : z.toInt ≤ 40) {n : Nat} (hn : n ≤ 1000) : g_X6_fell x y z n ρ 0 = 0 := nM_fell s0 s1 h0 h1 n 0 _ _ (by omega) (nM_fr hm)
