/-! What the class's methods answer and change, in its own order of steps: numbers as the machine has them. -/
abbrev f_min (x y : Int32) : Int32 := if y < x then y else x
abbrev f_max (x y : Int32) : Int32 := if x < y then y else x
abbrev f_abs (x : Int32) : Int32 := if 0 ≤ x then x else 0 - x
abbrev f_rem (x y : Int32) : Int32 := x - x / y * y
abbrev f_lmax (x y : Int64) : Int64 := if y < x then x else y
theorem lg_ne0 {z : Int64} (h : 0 ≤ lg_cmp z 1) : ¬ z = 0 := by
  intro e
  subst e
  exact absurd h (by decide)
theorem li_ne0 {z : Int32} (h : 1 ≤ z) : ¬ z = 0 := by
  intro e
  subst e
  exact absurd h (by decide)
theorem nI_dec (n : Nat) : nI (n + 1) + Int32.ofInt (-1) = nI n := by
  have h := nI_pred n
  rw [Int32.sub_eq_add_neg] at h
  exact h
theorem sH_foc {D : va_G} {a : Nat → Nat} {cs : Nat → ClassId} {σ : sS} {A : Nat → Prop} {H0 H : Heap} {locs : List Loc} {i : Nat} (hw : sH D a cs A H0 σ H locs) : sH D a cs A H0 (va_up σ i (σ i)) H locs := by rw [sup_id]; exact hw
theorem sH_unf {D : va_G} {a : Nat → Nat} {cs : Nat → ClassId} {σ : sS} {A : Nat → Prop} {H0 H : Heap} {locs : List Loc} {i : Nat} (hw : sH D a cs A H0 (va_up σ i (σ i)) H locs) : sH D a cs A H0 σ H locs := by rw [sup_id] at hw; exact hw
def f_X3_portion (x y z : Int64) : Int32 := if 0 ≤ lg_cmp z 1 then (x * y / z).toInt32 else 0
def f_X3_roundedUp (x y : Int32) : Int32 := if 1 ≤ y then (x + y - 1) / y else 0
def f_X3_tideAt (x : Int32) : Int32 := 2 + f_abs (f_rem x 14 - 7)
def f_X3_crownsPart (x : Int32) : Int32 := x / 10
def f_X3_purity (x y : Int32) : Int32 := f_X3_portion x.toInt64 100 (x.toInt64 + y.toInt64)
def f_X1_level (f : Nat → Int32) : Int32 := f_X3_portion (f 1).toInt64 1 (f 0).toInt64
def f_X1_strength (f : Nat → Int32) : Int32 := f_min 90 (f_X3_portion ((f 2).toInt64 + (f 4).toInt64) 1 (5 * (f 1).toInt64))
def f_X1_loseAllBrine (f : Nat → Int32) : Nat → Int32 := upd (upd (upd (upd f 1 0) 2 0) 3 0) 4 0
def f_X1_takeIn (f : Nat → Int32) (b s0 g t0 : Int32) : Nat → Int32 := upd (upd (upd (upd f 1 (f 1 + b)) 2 (f 2 + s0)) 3 (f 3 + g)) 4 (f 4 + t0)
def f_X1_rainFalls (f : Nat → Int32) (x : Int32) : Nat → Int32 := if f 10 = 0 then upd f 5 (f 5 + x * f 0 / 10) else f
def f_X1_dryOut (f : Nat → Int32) (x : Int32) : Nat → Int32 :=
  upd (upd f 5 (f 5 - f_min (f 5) (f 0 * x / 10))) 1 (f 1 - f_min (f 1 / 2) (f_X3_roundedUp ((f 0 * x - 10 * f_min (f 5) (f 0 * x / 10)) * (100 - f_X1_strength (upd f 5 (f 5 - f_min (f 5) (f 0 * x / 10))))) 1000))
def f_X1_mixFresh (f : Nat → Int32) : Nat → Int32 :=
  upd (upd (upd (upd f 5 (f 5 - f_X3_roundedUp (f 5) 2)) 1 (f 1 + f_X3_roundedUp (f 5) 2)) 6 (f 6 - f_min (f 6) (4 * f_X3_roundedUp (f 5) 2))) 2 (f 2 + f_min (f 6) (4 * f_X3_roundedUp (f 5) 2))
def f_X1_above (f : Nat → Int32) (x y : Int32) : Int32 := (f_lmax 0 (x.toInt64 - y.toInt64 * (f 1).toInt64)).toInt32
def f_X1_dropMinerals (f : Nat → Int32) : Nat → Int32 :=
  upd (upd (upd (upd (upd (upd f 8 (f_X1_above f (f 2) 300)) 3 (f 3 - f_X1_above f (f 3) 8)) 2 (f 2 - f_X1_above f (f 2) 300)) 4 (f 4 - f_X1_above f (f 4) 200)) 6 (f 6 + f_X1_above f (f 2) 300)) 7 (f 7 + (f_X1_above f (f 3) 8 + f_X1_above f (f 4) 200))
def f_X1_canBeHarvested (f : Nat → Int32) : Int32 := if f 6 ≤ 0 then 0 else if f 11 = 0 then 1 else 0
def f_X1_saltOfHarvest (f : Nat → Int32) (x : Int32) : Int32 := if x = 0 then f_min (f 6) (200 * f 0) else f 6
def f_X1_dirtOfCrustWith (f : Nat → Int32) (x : Int32) : Int32 := f_X3_portion (f 7).toInt64 x.toInt64 (f 6).toInt64
def f_X1_dirtOfFloor (f : Nat → Int32) (x : Int32) : Int32 := if x = 0 then 0 else 10 * f 0
def f_X1_harv (f : Nat → Int32) : Int32 := if f 11 = 0 then 0 else 1
def f_X1_read (f : Nat → Int32) : Nat → Int32
  | 8 => f_X1_level f
  | 9 => f_X1_strength f
  | 10 => f_X1_harv f
  | k => f k
def f_X1_giveBrine (σ : sS) (i j : Nat) (x : Int32) : sS :=
  va_up (va_up σ i (f_X1_takeIn (σ i) (-x) (-f_X3_portion (σ i 2).toInt64 x.toInt64 (σ i 1).toInt64) (-f_X3_portion (σ i 3).toInt64 x.toInt64 (σ i 1).toInt64) (-f_X3_portion (σ i 4).toInt64 x.toInt64 (σ i 1).toInt64))) j
    (f_X1_takeIn (va_up σ i (f_X1_takeIn (σ i) (-x) (-f_X3_portion (σ i 2).toInt64 x.toInt64 (σ i 1).toInt64) (-f_X3_portion (σ i 3).toInt64 x.toInt64 (σ i 1).toInt64) (-f_X3_portion (σ i 4).toInt64 x.toInt64 (σ i 1).toInt64)) j) x (f_X3_portion (σ i 2).toInt64 x.toInt64 (σ i 1).toInt64) (f_X3_portion (σ i 3).toInt64 x.toInt64 (σ i 1).toInt64) (f_X3_portion (σ i 4).toInt64 x.toInt64 (σ i 1).toInt64))
/-- the sea's brine into row r's first pond -/
def f_X2_sea (σ : sS) (r : Nat) (x : Int32) : sS :=
  va_up (va_up σ (5 + 8 * r + 0) (f_X1_takeIn (σ (5 + 8 * r + 0)) x (30 * x) (2 * x) (6 * x))) (1 + r)
    (upd (va_up σ (5 + 8 * r + 0) (f_X1_takeIn (σ (5 + 8 * r + 0)) x (30 * x) (2 * x) (6 * x)) (1 + r)) 4 (va_up σ (5 + 8 * r + 0) (f_X1_takeIn (σ (5 + 8 * r + 0)) x (30 * x) (2 * x) (6 * x)) (1 + r) 4 + 30 * x))
def f_X2_seaD (σ : sS) (r : Nat) : Int32 := 10 * f_X3_tideAt (σ (1 + r) 1) - f_X1_level (σ (5 + 8 * r + 0))
def f_X2_letSeaIn (σ : sS) (r : Nat) : sS :=
  if σ (5 + 8 * r + 0) 9 = 0 then σ else if 10 * f_X3_tideAt (σ (1 + r) 1) - f_X1_level (σ (5 + 8 * r + 0)) ≤ 0 then σ else f_X2_sea σ r ((10 * f_X3_tideAt (σ (1 + r) 1) - f_X1_level (σ (5 + 8 * r + 0))) * σ (5 + 8 * r + 0) 0 / 4)
def f_X2_flowStep (σ : sS) (r n : Nat) : sS :=
  if σ (5 + 8 * r + (n + 1)) 9 = 0 then σ else if f_X1_level (σ (5 + 8 * r + n)) - f_X1_level (σ (5 + 8 * r + (n + 1))) ≤ 0 then σ
  else f_X1_giveBrine σ (5 + 8 * r + n) (5 + 8 * r + (n + 1)) (f_X3_portion (f_X1_level (σ (5 + 8 * r + n)) - f_X1_level (σ (5 + 8 * r + (n + 1)))).toInt64 (f_min (σ (5 + 8 * r + n) 0) (σ (5 + 8 * r + (n + 1)) 0)).toInt64 2)
def f_X2_flow (r : Nat) : Nat → sS → sS
  | 0, σ => σ
  | n + 1, σ => f_X2_flow r n (f_X2_flowStep σ r n)
def f_X2_letBrineFlowOn (σ : sS) (r : Nat) : sS := f_X2_flow r 7 σ
/-- pond k's part of a day -/
def f_X2_pond (σ : sS) (r k : Nat) (z : Int32) : sS :=
  let p := 5 + 8 * r + k
  let τ := va_up σ p (upd (σ p) 11 0)
  let τ := va_up τ p (f_X1_rainFalls (τ p) z)
  let τ := va_up τ p (f_X1_dryOut (τ p) (τ (1 + r) 2 + τ (1 + r) 3))
  let τ := va_up τ p (f_X1_mixFresh (τ p))
  va_up τ p (f_X1_dropMinerals (τ p))
def f_X2_ponds (r : Nat) (z : Int32) : Nat → Nat → sS → sS
  | 0, _, σ => σ
  | n + 1, k, σ => f_X2_ponds r z n (k + 1) (f_X2_pond σ r k z)
def f_X2_start (σ : sS) (r : Nat) (x y : Int32) : sS :=
  let τ := va_up σ (1 + r) (upd (σ (1 + r)) 1 (σ (1 + r) 1 + 1))
  let τ := va_up τ (1 + r) (upd (τ (1 + r)) 2 x)
  va_up τ (1 + r) (upd (τ (1 + r)) 3 y)
def f_X2_letDayGoBy (σ : sS) (r : Nat) (x y z : Int32) : sS := f_X2_ponds r z 8 0 (f_X2_letBrineFlowOn (f_X2_letSeaIn (f_X2_start σ r x y) r) r)
def f_bit (x : Int32) (k : Nat) : Int32 := if (x >>> (nI k &&& 31)) &&& 1 = 1 then 1 else 0
def f_X2_gates (r : Nat) (x : Int32) : Nat → Nat → sS → sS
  | 0, _, σ => σ
  | n + 1, k, σ => f_X2_gates r x n (k + 1) (va_up σ (5 + 8 * r + k) (upd (σ (5 + 8 * r + k)) 9 (f_bit x k)))
def f_X2_setGates (σ : sS) (r : Nat) (x : Int32) : sS := f_X2_gates r x 8 0 σ
def f_gbit (x : Int32) (k : Nat) : Int32 := if x = 0 then 0 else 1 <<< (nI k &&& 31)
def f_X2_gsum (r : Nat) (σ : sS) : Nat → Nat → Int32 → Int32
  | 0, _, v => v
  | n + 1, k, v => f_X2_gsum r σ n (k + 1) (v + f_gbit (σ (5 + 8 * r + k) 9) k)
def f_X2_openGates (σ : sS) (r : Nat) : Int32 := f_X2_gsum r σ 8 0 0
def f_X2_csum (r : Nat) (σ : sS) : Nat → Nat → Int32 → Int32
  | 0, _, v => v
  | n + 1, k, v => f_X2_csum r σ n (k + 1) (v + f_gbit (σ (5 + 8 * r + k) 10) k)
def f_X2_coveredPans (σ : sS) (r : Nat) : Int32 := f_X2_csum r σ 8 0 0
def f_X2_fsum (r : Nat) (σ : sS) : Nat → Nat → Int32 → Int32
  | 0, _, v => v
  | n + 1, k, v => f_X2_fsum r σ n (k + 1) (v + σ (5 + 8 * r + k) 8)
def f_X2_saltFallenInPans (σ : sS) (r : Nat) : Int32 := f_X2_fsum r σ 3 5 0
def f_X2_ssum (r : Nat) (σ : sS) : Nat → Nat → Int32 → Int32
  | 0, _, v => v
  | n + 1, k, v => f_X2_ssum r σ n (k + 1) (v + (σ (5 + 8 * r + k) 2 + σ (5 + 8 * r + k) 6))
def f_X2_saltInPans (σ : sS) (r : Nat) : Int32 := f_X2_ssum r σ 3 5 0
