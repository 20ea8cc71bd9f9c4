/-! What the class's methods answer and change, in its own order of steps: numbers as the machine has them. -/
abbrev f_min (x y : Int32) : Int32 := if y < x then y else x
abbrev f_max (x y : Int32) : Int32 := if x < y then y else x
abbrev f_abs (x : Int32) : Int32 := if 0 ≤ x then x else 0 - x
abbrev f_rem (x y : Int32) : Int32 := x - x / y * y
abbrev f_lmax (x y : Int64) : Int64 := if y < x then x else y
theorem lg_ne0 {z : Int64} (h : 0 ≤ lg_cmp z 1) : ¬ z = 0 := by
  intro e
  subst e
  exact absurd h (by decide)
theorem li_ne0 {z : Int32} (h : 1 ≤ z) : ¬ z = 0 := by
  intro e
  subst e
  exact absurd h (by decide)
theorem nI_dec (n : Nat) : nI (n + 1) + Int32.ofInt (-1) = nI n := by
  have h := nI_pred n
  rw [Int32.sub_eq_add_neg] at h
  exact h
theorem sH_foc {D : va_G} {a : Nat → Nat} {cs : Nat → ClassId} {σ : sS} {A : Nat → Prop} {H0 H : Heap} {locs : List Loc} {i : Nat} (hw : sH D a cs A H0 σ H locs) : sH D a cs A H0 (va_up σ i (σ i)) H locs := by rw [sup_id]; exact hw
theorem sH_unf {D : va_G} {a : Nat → Nat} {cs : Nat → ClassId} {σ : sS} {A : Nat → Prop} {H0 H : Heap} {locs : List Loc} {i : Nat} (hw : sH D a cs A H0 (va_up σ i (σ i)) H locs) : sH D a cs A H0 σ H locs := by rw [sup_id] at hw; exact hw
def f_X3_portion (x y z : Int64) : Int32 := if 0 ≤ lg_cmp z 1 then (x * y / z).toInt32 else 0
def f_X3_roundedUp (x y : Int32) : Int32 := if 1 ≤ y then (x + y - 1) / y else 0
def f_X3_tideAt (x : Int32) : Int32 := 2 + f_abs (f_rem x 14 - 7)
def f_X3_crownsPart (x : Int32) : Int32 := x / 10
def f_X3_purity (x y : Int32) : Int32 := f_X3_portion x.toInt64 100 (x.toInt64 + y.toInt64)
def f_X1_level (f : Nat → Int32) : Int32 := f_X3_portion (f 1).toInt64 1 (f 0).toInt64
def f_X1_strength (f : Nat → Int32) : Int32 := f_min 90 (f_X3_portion ((f 2).toInt64 + (f 4).toInt64) 1 (5 * (f 1).toInt64))
def f_X1_loseAllBrine (f : Nat → Int32) : Nat → Int32 := upd (upd (upd (upd f 1 0) 2 0) 3 0) 4 0
def f_X1_takeIn (f : Nat → Int32) (b s0 g t0 : Int32) : Nat → Int32 := upd (upd (upd (upd f 1 (f 1 + b)) 2 (f 2 + s0)) 3 (f 3 + g)) 4 (f 4 + t0)
def f_X1_rainFalls (f : Nat → Int32) (x : Int32) : Nat → Int32 := if f 10 = 0 then upd f 5 (f 5 + x * f 0 / 10) else f
def f_X1_dryOut (f : Nat → Int32) (x : Int32) : Nat → Int32 :=
  upd (upd f 5 (f 5 - f_min (f 5) (f 0 * x / 10))) 1 (f 1 - f_min (f 1 / 2) (f_X3_roundedUp ((f 0 * x - 10 * f_min (f 5) (f 0 * x / 10)) * (100 - f_X1_strength (upd f 5 (f 5 - f_min (f 5) (f 0 * x / 10))))) 1000))
def f_X1_mixFresh (f : Nat → Int32) : Nat → Int32 :=
  upd (upd (upd (upd f 5 (f 5 - f_X3_roundedUp (f 5) 2)) 1 (f 1 + f_X3_roundedUp (f 5) 2)) 6 (f 6 - f_min (f 6) (4 * f_X3_roundedUp (f 5) 2))) 2 (f 2 + f_min (f 6) (4 * f_X3_roundedUp (f 5) 2))
def f_X1_above (f : Nat → Int32) (x y : Int32) : Int32 := (f_lmax 0 (x.toInt64 - y.toInt64 * (f 1).toInt64)).toInt32
def f_X1_dropMinerals (f : Nat → Int32) : Nat → Int32 :=
  upd (upd (upd (upd (upd (upd f 8 (f_X1_above f (f 2) 300)) 3 (f 3 - f_X1_above f (f 3) 8)) 2 (f 2 - f_X1_above f (f 2) 300)) 4 (f 4 - f_X1_above f (f 4) 200)) 6 (f 6 + f_X1_above f (f 2) 300)) 7 (f 7 + (f_X1_above f (f 3) 8 + f_X1_above f (f 4) 200))
def f_X1_canBeHarvested (f : Nat → Int32) : Int32 := if f 6 ≤ 0 then 0 else if f 11 = 0 then 1 else 0
def f_X1_saltOfHarvest (f : Nat → Int32) (x : Int32) : Int32 := if x = 0 then f_min (f 6) (200 * f 0) else f 6
def f_X1_dirtOfCrustWith (f : Nat → Int32) (x : Int32) : Int32 := f_X3_portion (f 7).toInt64 x.toInt64 (f 6).toInt64
def f_X1_dirtOfFloor (f : Nat → Int32) (x : Int32) : Int32 := if x = 0 then 0 else 10 * f 0
def f_X1_harv (f : Nat → Int32) : Int32 := if f 11 = 0 then 0 else 1
def f_X1_read (f : Nat → Int32) : Nat → Int32
  | 8 => f_X1_level f
  | 9 => f_X1_strength f
  | 10 => f_X1_harv f
  | k => f k
def f_X1_giveBrine (σ : sS) (i j : Nat) (x : Int32) : sS :=
  va_up (va_up σ i (f_X1_takeIn (σ i) (-x) (-f_X3_portion (σ i 2).toInt64 x.toInt64 (σ i 1).toInt64) (-f_X3_portion (σ i 3).toInt64 x.toInt64 (σ i 1).toInt64) (-f_X3_portion (σ i 4).toInt64 x.toInt64 (σ i 1).toInt64))) j
    (f_X1_takeIn (va_up σ i (f_X1_takeIn (σ i) (-x) (-f_X3_portion (σ i 2).toInt64 x.toInt64 (σ i 1).toInt64) (-f_X3_portion (σ i 3).toInt64 x.toInt64 (σ i 1).toInt64) (-f_X3_portion (σ i 4).toInt64 x.toInt64 (σ i 1).toInt64)) j) x (f_X3_portion (σ i 2).toInt64 x.toInt64 (σ i 1).toInt64) (f_X3_portion (σ i 3).toInt64 x.toInt64 (σ i 1).toInt64) (f_X3_portion (σ i 4).toInt64 x.toInt64 (σ i 1).toInt64))
/-- the sea's brine into row r's first pond -/
def f_X2_sea (σ : sS) (r : Nat) (x : Int32) : sS :=
  va_up (va_up σ (5 + 8 * r + 0) (f_X1_takeIn (σ (5 + 8 * r + 0)) x (30 * x) (2 * x) (6 * x))) (1 + r)
    (upd (va_up σ (5 + 8 * r + 0) (f_X1_takeIn (σ (5 + 8 * r + 0)) x (30 * x) (2 * x) (6 * x)) (1 + r)) 4 (va_up σ (5 + 8 * r + 0) (f_X1_takeIn (σ (5 + 8 * r + 0)) x (30 * x) (2 * x) (6 * x)) (1 + r) 4 + 30 * x))
def f_X2_seaD (σ : sS) (r : Nat) : Int32 := 10 * f_X3_tideAt (σ (1 + r) 1) - f_X1_level (σ (5 + 8 * r + 0))
def f_X2_letSeaIn (σ : sS) (r : Nat) : sS :=
  if σ (5 + 8 * r + 0) 9 = 0 then σ else if 10 * f_X3_tideAt (σ (1 + r) 1) - f_X1_level (σ (5 + 8 * r + 0)) ≤ 0 then σ else f_X2_sea σ r ((10 * f_X3_tideAt (σ (1 + r) 1) - f_X1_level (σ (5 + 8 * r + 0))) * σ (5 + 8 * r + 0) 0 / 4)
def f_X2_flowStep (σ : sS) (r n : Nat) : sS :=
  if σ (5 + 8 * r + (n + 1)) 9 = 0 then σ else if f_X1_level (σ (5 + 8 * r + n)) - f_X1_level (σ (5 + 8 * r + (n + 1))) ≤ 0 then σ
  else f_X1_giveBrine σ (5 + 8 * r + n) (5 + 8 * r + (n + 1)) (f_X3_portion (f_X1_level (σ (5 + 8 * r + n)) - f_X1_level (σ (5 + 8 * r + (n + 1)))).toInt64 (f_min (σ (5 + 8 * r + n) 0) (σ (5 + 8 * r + (n + 1)) 0)).toInt64 2)
def f_X2_flow (r : Nat) : Nat → sS → sS
  | 0, σ => σ
  | n + 1, σ => f_X2_flow r n (f_X2_flowStep σ r n)
def f_X2_letBrineFlowOn (σ : sS) (r : Nat) : sS := f_X2_flow r 7 σ
/-- pond k's part of a day -/
def f_X2_pond (σ : sS) (r k : Nat) (z : Int32) : sS :=
  let p := 5 + 8 * r + k
  let τ := va_up σ p (upd (σ p) 11 0)
  let τ := va_up τ p (f_X1_rainFalls (τ p) z)
  let τ := va_up τ p (f_X1_dryOut (τ p) (τ (1 + r) 2 + τ (1 + r) 3))
  let τ := va_up τ p (f_X1_mixFresh (τ p))
  va_up τ p (f_X1_dropMinerals (τ p))
def f_X2_ponds (r : Nat) (z : Int32) : Nat → Nat → sS → sS
  | 0, _, σ => σ
  | n + 1, k, σ => f_X2_ponds r z n (k + 1) (f_X2_pond σ r k z)
def f_X2_start (σ : sS) (r : Nat) (x y : Int32) : sS :=
  let τ := va_up σ (1 + r) (upd (σ (1 + r)) 1 (σ (1 + r) 1 + 1))
  let τ := va_up τ (1 + r) (upd (τ (1 + r)) 2 x)
  va_up τ (1 + r) (upd (τ (1 + r)) 3 y)
def f_X2_letDayGoBy (σ : sS) (r : Nat) (x y z : Int32) : sS := f_X2_ponds r z 8 0 (f_X2_letBrineFlowOn (f_X2_letSeaIn (f_X2_start σ r x y) r) r)
def f_bit (x : Int32) (k : Nat) : Int32 := if (x >>> (nI k &&& 31)) &&& 1 = 1 then 1 else 0
def f_X2_gates (r : Nat) (x : Int32) : Nat → Nat → sS → sS
  | 0, _, σ => σ
  | n + 1, k, σ => f_X2_gates r x n (k + 1) (va_up σ (5 + 8 * r + k) (upd (σ (5 + 8 * r + k)) 9 (f_bit x k)))
def f_X2_setGates (σ : sS) (r : Nat) (x : Int32) : sS := f_X2_gates r x 8 0 σ
def f_gbit (x : Int32) (k : Nat) : Int32 := if x = 0 then 0 else 1 <<< (nI k &&& 31)
def f_X2_gsum (r : Nat) (σ : sS) : Nat → Nat → Int32 → Int32
  | 0, _, v => v
  | n + 1, k, v => f_X2_gsum r σ n (k + 1) (v + f_gbit (σ (5 + 8 * r + k) 9) k)
def f_X2_openGates (σ : sS) (r : Nat) : Int32 := f_X2_gsum r σ 8 0 0
def f_X2_csum (r : Nat) (σ : sS) : Nat → Nat → Int32 → Int32
  | 0, _, v => v
  | n + 1, k, v => f_X2_csum r σ n (k + 1) (v + f_gbit (σ (5 + 8 * r + k) 10) k)
def f_X2_coveredPans (σ : sS) (r : Nat) : Int32 := f_X2_csum r σ 8 0 0
def f_X2_fsum (r : Nat) (σ : sS) : Nat → Nat → Int32 → Int32
  | 0, _, v => v
  | n + 1, k, v => f_X2_fsum r σ n (k + 1) (v + σ (5 + 8 * r + k) 8)
def f_X2_saltFallenInPans (σ : sS) (r : Nat) : Int32 := f_X2_fsum r σ 3 5 0
def f_X2_ssum (r : Nat) (σ : sS) : Nat → Nat → Int32 → Int32
  | 0, _, v => v
  | n + 1, k, v => f_X2_ssum r σ n (k + 1) (v + (σ (5 + 8 * r + k) 2 + σ (5 + 8 * r + k) 6))
def f_X2_saltInPans (σ : sS) (r : Nat) : Int32 := f_X2_ssum r σ 3 5 0
theorem nI_sub5 (q : Nat) : nI (5 + q) - 5 = nI q := by
  rw [show nI (5 + q) = nI q + nI 5 by rw [nI_add, Nat.add_comm], show (5 : Int32) = nI 5 from rfl]
  exact Int32.add_sub_cancel _ _
theorem sH_w {D : va_G} {a : Nat → Nat} {cs : Nat → ClassId} {σ σ' : sS} {A : Nat → Prop} {H0 H : Heap} {locs : List Loc} (h : sW a cs σ = sW a cs σ') (hw : sH D a cs A H0 σ H locs) : sH D a cs A H0 σ' H locs := ⟨by rw [← h]; exact hw.1, sD_to hw.2.1, hw.2.2⟩
def f_X2_psum (w r : Nat) (σ : sS) : Nat → Nat → Int32 → Int32
  | 0, _, v => v
  | n + 1, k, v => f_X2_psum w r σ n (k + 1) (v + f_X1_read (σ (5 + 8 * r + k)) w)
def f_X2_sumOfPonds (σ : sS) (r w : Nat) : Int32 := f_X2_psum w r σ 8 0 0
/-- the booleans of row 0's ponds are 0 or 1 -/
def sZ (σ : sS) : Prop := ∀ k, k < 8 → ∀ q, 9 ≤ q → q < 12 → σ (5 + 8 * 0 + k) q = 0 ∨ σ (5 + 8 * 0 + k) q = 1
theorem sZ_up {σ : sS} {i : Nat} {f : Nat → Int32} (h : sZ σ) (hi : i < 5 ∨ 13 ≤ i) : sZ (va_up σ i f) := fun k hk q h1 h2 => by
  rw [va_up_ne _ _ (by omega)]
  exact h k hk q h1 h2
def f_X2_cp : Nat → Nat → sS → sS
  | 0, _, σ => σ
  | n + 1, k, σ => f_X2_cp n (k + 1) (va_up σ (5 + 8 * 1 + k) (σ (5 + 8 * 0 + k)))
/-- row 1 as row 0 is -/
def f_X2_copyFrom (σ : sS) : sS := f_X2_cp 8 0 (va_up σ 2 (σ 1))
def f_X0_read (f : Nat → Int32) : Nat → Int32
  | 0 => f 1
  | 1 => f 2
  | 2 => f_X3_purity (f 1) (f 2)
  | k => f k
def f_X0_getSalt (σ : sS) (j : Nat) (x y : Int32) : sS :=
  let τ := va_up σ (22 + j) (upd (σ (22 + j)) 1 (σ (22 + j) 1 + x))
  let τ := va_up τ (22 + j) (upd (τ (22 + j)) 2 (τ (22 + j) 2 + y))
  va_up τ (22 + j) (upd (τ (22 + j)) 4 (τ (22 + j) 4 + x))
theorem f_X0_getSalt_at {σ : sS} {j : Nat} {x y : Int32} {i k : Nat} (h : i < 22) : f_X0_getSalt σ j x y i k = σ i k := by
  unfold f_X0_getSalt
  rw [va_up_ne _ _ (by omega), va_up_ne _ _ (by omega), va_up_ne _ _ (by omega)]
def f_X0_sellSalt (σ : sS) (j : Nat) (x y : Int32) : sS :=
  let τ := va_up σ (22 + j) (upd (σ (22 + j)) 2 (σ (22 + j) 2 - f_X3_portion (σ (22 + j) 2).toInt64 x.toInt64 (σ (22 + j) 1).toInt64))
  let τ := va_up τ (22 + j) (upd (τ (22 + j)) 1 (τ (22 + j) 1 - x))
  let τ := va_up τ (22 + j) (upd (τ (22 + j)) 5 (τ (22 + j) 5 + x))
  va_up τ (22 + j) (upd (τ (22 + j)) 3 (τ (22 + j) 3 + y))
def f_X3_skim (σ : sS) (k : Nat) : sS :=
  let τ := va_up σ (5 + 8 * 0 + k) (upd (σ (5 + 8 * 0 + k)) 5 0)
  va_up τ 0 (upd (τ 0) 4 (τ 0 4 + σ (5 + 8 * 0 + k) 5))
def f_X3_familyV (σ : sS) : Int32 := va_up σ 0 (upd (σ 0) 3 (σ 0 3 + 1)) 0 3 - 1
def f_X3_rsum (q : Nat) (σ : sS) : Nat → Nat → Int32 → Int32
  | 0, _, v => v
  | n + 1, k, v => f_X3_rsum q σ n (k + 1) (v + σ (28 + k) q)
def f_X3_rightsIn (σ : sS) (q fc : Nat) : Int32 := f_X3_rsum q σ fc 0 0
def f_X3_hsum (w : Nat) (σ : sS) : Nat → Nat → Int32 → Int32
  | 0, _, v => v
  | n + 1, k, v => f_X3_hsum w σ n (k + 1) (v + f_X0_read (σ (22 + k)) w)
def f_X3_sumOfFamilies (σ : sS) (w fc : Nat) : Int32 := f_X3_hsum w σ fc 0 0
def f_X3_part (x : Int32) (σ : sS) (k q : Nat) : Int32 := f_X3_portion x.toInt64 (σ (28 + k) q).toInt64 12
def f_X3_so (q : Nat) (x y : Int32) : Nat → Nat → sS → sS
  | 0, _, σ => σ
  | n + 1, k, σ => f_X3_so q x y n (k + 1) (f_X0_getSalt σ k (f_X3_portion x.toInt64 (σ (28 + k) q).toInt64 12) (f_X3_portion y.toInt64 (σ (28 + k) q).toInt64 12))
def f_X3_soS (q : Nat) (x y : Int32) : Nat → Nat → sS → Int32 → Int32
  | 0, _, _, v => v
  | n + 1, k, σ, v => f_X3_soS q x y n (k + 1) (f_X0_getSalt σ k (f_X3_portion x.toInt64 (σ (28 + k) q).toInt64 12) (f_X3_portion y.toInt64 (σ (28 + k) q).toInt64 12)) (v - f_X3_portion x.toInt64 (σ (28 + k) q).toInt64 12)
def f_X3_soD (q : Nat) (x y : Int32) : Nat → Nat → sS → Int32 → Int32
  | 0, _, _, v => v
  | n + 1, k, σ, v => f_X3_soD q x y n (k + 1) (f_X0_getSalt σ k (f_X3_portion x.toInt64 (σ (28 + k) q).toInt64 12) (f_X3_portion y.toInt64 (σ (28 + k) q).toInt64 12)) (v - f_X3_portion y.toInt64 (σ (28 + k) q).toInt64 12)
def f_X3_shareOut (σ : sS) (q fc : Nat) (x y : Int32) : sS :=
  let τ := f_X3_so q x y fc 0 σ
  let τ' := va_up τ 0 (upd (τ 0) 7 (τ 0 7 + f_X3_soS q x y fc 0 σ x))
  va_up τ' 0 (upd (τ' 0) 8 (τ' 0 8 + f_X3_soD q x y fc 0 σ y))
def f_X3_harvest (σ : sS) (q fc : Nat) (x : Int32) : sS :=
  let p := 5 + 8 * 0 + (5 + q)
  let τ1 := va_up σ p (upd (σ p) 6 (σ p 6 - f_X1_saltOfHarvest (σ p) x))
  let τ2 := va_up τ1 p (upd (τ1 p) 7 (τ1 p 7 - f_X1_dirtOfCrustWith (σ p) (f_X1_saltOfHarvest (σ p) x)))
  let τ3 := va_up τ2 p (upd (τ2 p) 11 1)
  let τ4 := va_up τ3 0 (upd (τ3 0) 6 (τ3 0 6 + f_X3_crownsPart (f_X1_saltOfHarvest (σ p) x)))
  f_X3_shareOut τ4 q fc (f_X1_saltOfHarvest (σ p) x - f_X3_crownsPart (f_X1_saltOfHarvest (σ p) x)) (f_X1_dirtOfCrustWith (σ p) (f_X1_saltOfHarvest (σ p) x) + f_X1_dirtOfFloor (σ p) x)
def f_X3_wash (σ : sS) (j : Nat) : sS :=
  let τ1 := va_up σ (22 + j) (upd (σ (22 + j)) 2 (σ (22 + j) 2 - f_X3_roundedUp (σ (22 + j) 2) 2))
  let τ2 := va_up τ1 (22 + j) (upd (τ1 (22 + j)) 1 (τ1 (22 + j) 1 - f_X3_roundedUp (σ (22 + j) 1) 20))
  va_up τ2 0 (upd (τ2 0) 5 (τ2 0 5 + f_X3_roundedUp (σ (22 + j) 1) 20))
def f_X3_washV (σ : sS) (j : Nat) : Int32 := f_X3_purity (f_X3_wash σ j (22 + j) 1) (f_X3_wash σ j (22 + j) 2)
def f_X3_days (r : Nat) (x y z : Int32) : Nat → sS → sS
  | 0, σ => σ
  | n + 1, σ => f_X3_days r x y z n (f_X2_letDayGoBy σ r x y z)
def f_X3_fell (x y z : Int32) : Nat → sS → Int32 → Int32
  | 0, _, v => v
  | n + 1, σ, v => f_X3_fell x y z n (f_X2_letDayGoBy σ 0 x y z) (v + f_X2_saltFallenInPans (f_X2_letDayGoBy σ 0 x y z) 0)
