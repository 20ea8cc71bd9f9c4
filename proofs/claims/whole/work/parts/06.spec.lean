/-! What the class's methods answer and change, in its own order of steps: numbers as the machine has them. -/
abbrev f_min (x y : Int32) : Int32 := if y < x then y else x
abbrev f_max (x y : Int32) : Int32 := if x < y then y else x
abbrev f_abs (x : Int32) : Int32 := if 0 ≤ x then x else 0 - x
abbrev f_rem (x y : Int32) : Int32 := x - x / y * y
abbrev f_lmax (x y : Int64) : Int64 := if y < x then x else y
theorem lg_ne0 {z : Int64} (h : 0 ≤ lg_cmp z 1) : ¬ z = 0 := by
  intro e
  subst e
  exact absurd h (by decide)
theorem li_ne0 {z : Int32} (h : 1 ≤ z) : ¬ z = 0 := by
  intro e
  subst e
  exact absurd h (by decide)
theorem sH_foc {D : va_G} {a : Nat → Nat} {cs : Nat → ClassId} {σ : sS} {A : Nat → Prop} {H0 H : Heap} {locs : List Loc} {i : Nat} (hw : sH D a cs A H0 σ H locs) : sH D a cs A H0 (va_up σ i (σ i)) H locs := by rw [sup_id]; exact hw
theorem sH_unf {D : va_G} {a : Nat → Nat} {cs : Nat → ClassId} {σ : sS} {A : Nat → Prop} {H0 H : Heap} {locs : List Loc} {i : Nat} (hw : sH D a cs A H0 (va_up σ i (σ i)) H locs) : sH D a cs A H0 σ H locs := by rw [sup_id] at hw; exact hw
def f_X3_portion (x y z : Int64) : Int32 := if 0 ≤ lg_cmp z 1 then (x * y / z).toInt32 else 0
def f_X3_roundedUp (x y : Int32) : Int32 := if 1 ≤ y then (x + y - 1) / y else 0
def f_X3_tideAt (x : Int32) : Int32 := 2 + f_abs (f_rem x 14 - 7)
def f_X3_crownsPart (x : Int32) : Int32 := x / 10
def f_X3_purity (x y : Int32) : Int32 := f_X3_portion x.toInt64 100 (x.toInt64 + y.toInt64)
def f_X1_level (f : Nat → Int32) : Int32 := f_X3_portion (f 1).toInt64 1 (f 0).toInt64
def f_X1_strength (f : Nat → Int32) : Int32 := f_min 90 (f_X3_portion ((f 2).toInt64 + (f 4).toInt64) 1 (5 * (f 1).toInt64))
def f_X1_loseAllBrine (f : Nat → Int32) : Nat → Int32 := upd (upd (upd (upd f 1 0) 2 0) 3 0) 4 0
def f_X1_takeIn (f : Nat → Int32) (b s0 g t0 : Int32) : Nat → Int32 := upd (upd (upd (upd f 1 (f 1 + b)) 2 (f 2 + s0)) 3 (f 3 + g)) 4 (f 4 + t0)
def f_X1_rainFalls (f : Nat → Int32) (x : Int32) : Nat → Int32 := if f 10 = 0 then upd f 5 (f 5 + x * f 0 / 10) else f
def f_X1_dryOut (f : Nat → Int32) (x : Int32) : Nat → Int32 :=
  upd (upd f 5 (f 5 - f_min (f 5) (f 0 * x / 10))) 1 (f 1 - f_min (f 1 / 2) (f_X3_roundedUp ((f 0 * x - 10 * f_min (f 5) (f 0 * x / 10)) * (100 - f_X1_strength (upd f 5 (f 5 - f_min (f 5) (f 0 * x / 10))))) 1000))
def f_X1_mixFresh (f : Nat → Int32) : Nat → Int32 :=
  upd (upd (upd (upd f 5 (f 5 - f_X3_roundedUp (f 5) 2)) 1 (f 1 + f_X3_roundedUp (f 5) 2)) 6 (f 6 - f_min (f 6) (4 * f_X3_roundedUp (f 5) 2))) 2 (f 2 + f_min (f 6) (4 * f_X3_roundedUp (f 5) 2))
def f_X1_above (f : Nat → Int32) (x y : Int32) : Int32 := (f_lmax 0 (x.toInt64 - y.toInt64 * (f 1).toInt64)).toInt32
def f_X1_dropMinerals (f : Nat → Int32) : Nat → Int32 :=
  upd (upd (upd (upd (upd (upd f 8 (f_X1_above f (f 2) 300)) 3 (f 3 - f_X1_above f (f 3) 8)) 2 (f 2 - f_X1_above f (f 2) 300)) 4 (f 4 - f_X1_above f (f 4) 200)) 6 (f 6 + f_X1_above f (f 2) 300)) 7 (f 7 + (f_X1_above f (f 3) 8 + f_X1_above f (f 4) 200))
def f_X1_canBeHarvested (f : Nat → Int32) : Int32 := if f 6 ≤ 0 then 0 else if f 11 = 0 then 1 else 0
def f_X1_saltOfHarvest (f : Nat → Int32) (x : Int32) : Int32 := if x = 0 then f_min (f 6) (200 * f 0) else f 6
def f_X1_dirtOfCrustWith (f : Nat → Int32) (x : Int32) : Int32 := f_X3_portion (f 7).toInt64 x.toInt64 (f 6).toInt64
def f_X1_dirtOfFloor (f : Nat → Int32) (x : Int32) : Int32 := if x = 0 then 0 else 10 * f 0
