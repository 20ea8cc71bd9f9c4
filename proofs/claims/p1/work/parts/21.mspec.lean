/-! What the reference's methods answer and change, in its own order of steps. -/
abbrev f_lmin (x y : Int64) : Int64 := if y < x then y else x
def g_X6_share (x y z : Int32) : Int32 := if z = 0 then 0 else (x.toInt64 * y.toInt64 / z.toInt64).toInt32
def g_X6_tideOf (x : Int32) : Int32 := 2 + f_abs (f_rem x 14 - 7)
def g_X4_level (f : Nat → Int32) : Int32 := f 1 / f 0
def g_X4_strength (f : Nat → Int32) : Int32 := if f 1 = 0 then 0 else (f_lmin 90 (((f 2).toInt64 + (f 4).toInt64) / (5 * (f 1).toInt64))).toInt32
def g_more (f : Nat → Int32) (b s0 g t0 : Int32) : Nat → Int32 := upd (upd (upd (upd f 1 (f 1 + b)) 2 (f 2 + s0)) 3 (f 3 + g)) 4 (f 4 + t0)
def g_less (f : Nat → Int32) (b s0 g t0 : Int32) : Nat → Int32 := upd (upd (upd (upd f 1 (f 1 - b)) 2 (f 2 - s0)) 3 (f 3 - g)) 4 (f 4 - t0)
def g_X4_give (σ : sS) (i j : Nat) (x : Int32) : sS :=
  va_up (va_up σ i (g_less (σ i) x (g_X6_share (σ i 2) x (σ i 1)) (g_X6_share (σ i 3) x (σ i 1)) (g_X6_share (σ i 4) x (σ i 1)))) j (g_more (σ j) x (g_X6_share (σ i 2) x (σ i 1)) (g_X6_share (σ i 3) x (σ i 1)) (g_X6_share (σ i 4) x (σ i 1)))
def g_dryF (f : Nat → Int32) (x : Int32) : Int32 := f_min (f 5) (f 0 * x / 10)
def g_X4_dry (f : Nat → Int32) (x : Int32) : Nat → Int32 :=
  upd (upd f 5 (f 5 - f_min (f 5) (f 0 * x / 10))) 1 (f 1 - f_min (f 1 / 2) (((f 0 * x - 10 * f_min (f 5) (f 0 * x / 10)) * (100 - g_X4_strength f) + 999) / 1000))
def g_X4_mix (f : Nat → Int32) : Nat → Int32 :=
  upd (upd (upd (upd f 5 (f 5 - (f 5 + 1) / 2)) 1 (f 1 + (f 5 + 1) / 2)) 6 (f 6 - f_min (f 6) (4 * ((f 5 + 1) / 2)))) 2 (f 2 + f_min (f 6) (4 * ((f 5 + 1) / 2)))
def g_above (f : Nat → Int32) (x : Int32) (y : Int64) : Int32 := (f_lmax 0 (x.toInt64 - y * (f 1).toInt64)).toInt32
def g_X4_fall (f : Nat → Int32) : Nat → Int32 :=
  upd (upd (upd (upd (upd f 3 (f 3 - g_above f (f 3) 8)) 2 (f 2 - g_above f (f 2) 300)) 4 (f 4 - g_above f (f 4) 200)) 7 (f 7 + (g_above f (f 3) 8 + g_above f (f 4) 200))) 6 (f 6 + g_above f (f 2) 300)
def g_X4_fallV (f : Nat → Int32) : Int32 := g_above f (f 2) 300
theorem g_ld {y : Int32} (h : ¬ y = 0) : ¬ y.toInt64 = 0 := fun e => h (by
  have h2 := congrArg Int64.toInt e
  rw [Int32.toInt_toInt64] at h2
  exact Int32.toInt_inj.mp h2)
theorem g_l5 {y : Int32} (h : ¬ y = 0) : ¬ (5 : Int64) * y.toInt64 = 0 := fun e => h (by
  have h2 := congrArg Int64.toInt e
  have h3 := Int32.le_toInt y
  have h4 := Int32.toInt_lt y
  rw [Int64.toInt_mul, Int32.toInt_toInt64, show (5 : Int64).toInt = 5 from rfl, Int.bmod_eq_of_le (by omega) (by omega)] at h2
  exact Int32.toInt_inj.mp (by have : (0 : Int64).toInt = 0 := rfl; have : (0 : Int32).toInt = 0 := rfl; omega))
/-- no pond of the reference's row is without an area -/
def mAr (σ : sS) : Prop := ∀ k, k < 8 → ¬ σ (2 + k) 0 = 0
def g_X5_start (σ : sS) : sS := va_up σ 0 (upd (σ 0) 1 (σ 0 1 + 1))
def g_X5_seaD (σ : sS) : Int32 := 10 * g_X6_tideOf (σ 0 1) - g_X4_level (σ (2 + 0))
def g_X5_sea (σ : sS) (x : Int32) : sS := va_up (va_up σ (2 + 0) (g_more (σ (2 + 0)) x (30 * x) (2 * x) (6 * x))) 0 (upd (σ 0) 2 (σ 0 2 + 30 * x))
def g_X5_seaStep (σ : sS) : sS := if σ (2 + 0) 8 = 0 then σ else if g_X5_seaD σ ≤ 0 then σ else g_X5_sea σ (g_X5_seaD σ * σ (2 + 0) 0 / 4)
def g_X5_flowStep (σ : sS) (n : Nat) : sS :=
  if σ (2 + (n + 1)) 8 = 0 then σ else if g_X4_level (σ (2 + n)) - g_X4_level (σ (2 + (n + 1))) ≤ 0 then σ
  else g_X4_give σ (2 + n) (2 + (n + 1)) ((g_X4_level (σ (2 + n)) - g_X4_level (σ (2 + (n + 1)))) * f_min (σ (2 + n) 0) (σ (2 + (n + 1)) 0) / 2)
def g_X5_flow : Nat → sS → sS
  | 0, σ => σ
  | n + 1, σ => g_X5_flow n (g_X5_flowStep σ n)
def g_X5_rainStep (z : Int32) (σ : sS) (k : Nat) : sS := if σ (2 + k) 9 = 0 then va_up σ (2 + k) (upd (σ (2 + k)) 5 (σ (2 + k) 5 + z * σ (2 + k) 0 / 10)) else σ
def g_X5_rain (z : Int32) : Nat → Nat → sS → sS
  | 0, _, σ => σ
  | n + 1, k, σ => g_X5_rain z n (k + 1) (g_X5_rainStep z σ k)
def g_X5_dry (x : Int32) : Nat → Nat → sS → sS
  | 0, _, σ => σ
  | n + 1, k, σ => g_X5_dry x n (k + 1) (va_up σ (2 + k) (g_X4_dry (σ (2 + k)) x))
def g_X5_mixStep (σ : sS) (k : Nat) : sS := if σ (2 + k) 5 ≤ 0 then σ else va_up σ (2 + k) (g_X4_mix (σ (2 + k)))
def g_X5_mix : Nat → Nat → sS → sS
  | 0, _, σ => σ
  | n + 1, k, σ => g_X5_mix n (k + 1) (g_X5_mixStep σ k)
def g_X5_fall : Nat → Nat → sS → sS
  | 0, _, σ => σ
  | n + 1, k, σ => g_X5_fall n (k + 1) (va_up σ (2 + k) (g_X4_fall (σ (2 + k))))
def g_X5_fell : Nat → Nat → sS → (Nat → Int32) → Nat → Int32
  | 0, _, _, f => f
  | n + 1, k, σ, f => g_X5_fell n (k + 1) (va_up σ (2 + k) (g_X4_fall (σ (2 + k)))) (upd f k (g_X4_fallV (σ (2 + k))))
/-- a day of the reference, up to what falls -/
def g_X5_wet (σ : sS) (x y z : Int32) : sS := g_X5_mix 8 0 (g_X5_dry (x + y) 8 0 (g_X5_rain z 8 0 (g_X5_flow 7 (g_X5_seaStep (g_X5_start σ)))))
def g_X5_day (σ : sS) (x y z : Int32) : sS := g_X5_fall 8 0 (g_X5_wet σ x y z)
def g_X5_made (σ : sS) (x y z : Int32) : Nat → Int32 := g_X5_fell 8 0 (g_X5_wet σ x y z) (fun _ => 0)
theorem mAr_give {σ : sS} {i j : Nat} {x : Int32} (h : mAr σ) : mAr (g_X4_give σ i j x) := fun k hk => by
  unfold g_X4_give
  by_cases e : 2 + k = j
  · subst e; rw [va_up_self]; exact h k hk
  · rw [va_up_ne _ _ e]
    by_cases e2 : 2 + k = i
    · subst e2; rw [va_up_self]; exact h k hk
    · rw [va_up_ne _ _ e2]; exact h k hk
theorem mAr_flowStep {σ : sS} {n : Nat} (h : mAr σ) : mAr (g_X5_flowStep σ n) := by
  unfold g_X5_flowStep
  split
  · exact h
  · split
    · exact h
    · exact mAr_give h
theorem mAr_start {σ : sS} (h : mAr σ) : mAr (g_X5_start σ) := fun k hk => by
  unfold g_X5_start
  rw [va_up_ne _ _ (by omega)]; exact h k hk
theorem mAr_sea {σ : sS} (h : mAr σ) : mAr (g_X5_seaStep σ) := by
  unfold g_X5_seaStep
  split
  · exact h
  · split
    · exact h
    · intro k hk
      unfold g_X5_sea
      rw [va_up_ne _ _ (by omega)]
      by_cases e : 2 + k = 2 + 0
      · rw [e, va_up_self]; exact h 0 (by omega)
      · rw [va_up_ne _ _ e]; exact h k hk
def g_X6_isIn (x y z : Int32) : Int32 := if x < y then 0 else if z < x then 0 else 1
def g_X6_one (x : Int32) : Int32 := if x = 0 then 0 else 1
def g_X6_isNoPond (x : Int32) : Int32 := if g_X6_isIn x 0 7 = 0 then 1 else 0
def g_X6_isNoPan (x : Int32) : Int32 := if g_X6_isIn x 5 7 = 0 then 1 else 0
/-- what was thrown is set down -/
def m_thr (σ : sS) (v : Int32) : sS := va_up σ 10 (upd (σ 10) 0 v)
theorem m_thr2 (σ : sS) (v w : Int32) : m_thr (m_thr σ v) w = m_thr σ w := by
  unfold m_thr
  rw [sup_up, va_up_self]
  congr 1
  funext k
  by_cases e : k = 0
  · subst e; rfl
  · show upd _ 0 w k = upd _ 0 w k
    unfold upd
    rw [if_neg e, if_neg e, if_neg e]
theorem m_thr_ne {σ : sS} {v : Int32} {i : Nat} (h : i ≠ 10) : m_thr σ v i = σ i := va_up_ne _ _ h
theorem m_pond {k : Nat} (h : k < 8) : g_X6_isNoPond (nI k) = 0 := by
  rcases (show k = 0 ∨ k = 1 ∨ k = 2 ∨ k = 3 ∨ k = 4 ∨ k = 5 ∨ k = 6 ∨ k = 7 by omega) with rfl | rfl | rfl | rfl | rfl | rfl | rfl | rfl <;> decide
theorem m_pan {q : Nat} (h : q < 3) : g_X6_isNoPan (nI (5 + q)) = 0 := by
  rcases (show q = 0 ∨ q = 1 ∨ q = 2 by omega) with rfl | rfl | rfl <;> decide
def g_X6_days (x y z : Int32) : Nat → sS → sS
  | 0, σ => σ
  | n + 1, σ => g_X6_days x y z n (g_X5_day σ x y z)
def g_sum (f : Nat → Int32) : Nat → Nat → Int32 → Int32
  | 0, _, v => v
  | n + 1, k, v => g_sum f n (k + 1) (v + f k)
def g_X6_fell (x y z : Int32) : Nat → sS → Int32 → Int32
  | 0, _, v => v
  | n + 1, σ, v => g_X6_fell x y z n (g_X5_day σ x y z) (g_sum (g_X5_made σ x y z) 3 5 v)
theorem mAr_thr {σ : sS} {v : Int32} (h : mAr σ) : mAr (m_thr σ v) := fun k hk => by rw [m_thr_ne (by omega)]; exact h k hk
theorem mAr_up {σ : sS} {i : Nat} {f : Nat → Int32} (h : mAr σ) (hf : f 0 = σ i 0) : mAr (va_up σ i f) := fun k hk => by
  by_cases e : 2 + k = i
  · subst e; rw [va_up_self, hf]; exact h k hk
  · rw [va_up_ne _ _ e]; exact h k hk
theorem mAr_flow : ∀ (n : Nat) (σ : sS), mAr σ → mAr (g_X5_flow n σ)
  | 0, _, h => h
  | n + 1, σ, h => mAr_flow n (g_X5_flowStep σ n) (mAr_flowStep h)
theorem mAr_rain {z : Int32} : ∀ (n k : Nat) (σ : sS), mAr σ → mAr (g_X5_rain z n k σ)
  | 0, _, _, h => h
  | n + 1, k, σ, h => mAr_rain n (k + 1) (g_X5_rainStep z σ k) (by
    unfold g_X5_rainStep
    split
    · exact mAr_up h rfl
    · exact h)
theorem mAr_dry {x : Int32} : ∀ (n k : Nat) (σ : sS), mAr σ → mAr (g_X5_dry x n k σ)
  | 0, _, _, h => h
  | n + 1, k, σ, h => mAr_dry n (k + 1) (va_up σ (2 + k) (g_X4_dry (σ (2 + k)) x)) (mAr_up h rfl)
theorem mAr_mix : ∀ (n k : Nat) (σ : sS), mAr σ → mAr (g_X5_mix n k σ)
  | 0, _, _, h => h
  | n + 1, k, σ, h => mAr_mix n (k + 1) (g_X5_mixStep σ k) (by
    unfold g_X5_mixStep
    split
    · exact h
    · exact mAr_up h rfl)
theorem mAr_fall : ∀ (n k : Nat) (σ : sS), mAr σ → mAr (g_X5_fall n k σ)
  | 0, _, _, h => h
  | n + 1, k, σ, h => mAr_fall n (k + 1) (va_up σ (2 + k) (g_X4_fall (σ (2 + k)))) (mAr_up h rfl)
theorem mAr_day {σ : sS} {x y z : Int32} (h : mAr σ) : mAr (g_X5_day σ x y z) := mAr_fall _ _ _ (mAr_mix _ _ _ (mAr_dry _ _ _ (mAr_rain _ _ _ (mAr_flow _ _ (mAr_sea (mAr_start h))))))
def g_tell (f : Nat → Int32) : Nat → Int32
  | 8 => g_X4_level f
  | 9 => g_X4_strength f
  | 10 => 0
  | k => f k
theorem m_lt11 {w : Nat} (h : w < 11) : w = 0 ∨ w = 1 ∨ w = 2 ∨ w = 3 ∨ w = 4 ∨ w = 5 ∨ w = 6 ∨ w = 7 ∨ w = 8 ∨ w = 9 ∨ w = 10 := by omega
def g_X6_canHarvest (σ : sS) (i : Nat) : Int32 := if σ i 6 ≤ 0 then 0 else if σ i 10 = σ 0 1 then 0 else 1
/-- the first day from 0 on with such a tide -/
def g_X6_tideV (x h : Int32) : Nat → Nat → Int32
  | 0, _ => -1
  | n + 1, k => if h = 0 then (if x < g_X6_tideOf (nI k) then g_X6_tideV x h n (k + 1) else nI k) else (if g_X6_tideOf (nI k) < x then g_X6_tideV x h n (k + 1) else nI k)
