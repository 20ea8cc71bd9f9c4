/-! What a row's day, gates and copy leave alone; what the object answers and changes (second part). -/
/-- not a cell of row r -/
def sO (r i : Nat) : Prop := i ≠ 1 + r ∧ (i < 5 + 8 * r ∨ 13 + 8 * r ≤ i)
theorem k_give {σ : sS} {i j k : Nat} {x : Int32} (h1 : k ≠ i) (h2 : k ≠ j) : f_X1_giveBrine σ i j x k = σ k := by
  unfold f_X1_giveBrine
  rw [va_up_ne _ _ h2, va_up_ne _ _ h1]
theorem k_sea {σ : sS} {r i : Nat} (h : sO r i) : f_X2_letSeaIn σ r i = σ i := by
  have h2 := h.2
  unfold f_X2_letSeaIn
  split
  · rfl
  · split
    · rfl
    · unfold f_X2_sea
      rw [va_up_ne _ _ h.1, va_up_ne _ _ (by omega)]
theorem k_flowStep {σ : sS} {r n i : Nat} (hn : n < 7) (h : sO r i) : f_X2_flowStep σ r n i = σ i := by
  have h2 := h.2
  unfold f_X2_flowStep
  split
  · rfl
  · split
    · rfl
    · exact k_give (by omega) (by omega)
theorem k_flow {r i : Nat} (h : sO r i) : ∀ (n : Nat) (σ : sS), n ≤ 7 → f_X2_flow r n σ i = σ i
  | 0, _, _ => rfl
  | n + 1, σ, hn => (k_flow h n (f_X2_flowStep σ r n) (by omega)).trans (k_flowStep (by omega) h)
theorem k_pond {σ : sS} {r k i : Nat} {z : Int32} (h : i ≠ 5 + 8 * r + k) : f_X2_pond σ r k z i = σ i := by
  unfold f_X2_pond
  rw [va_up_ne _ _ h, va_up_ne _ _ h, va_up_ne _ _ h, va_up_ne _ _ h, va_up_ne _ _ h]
theorem k_ponds {r i : Nat} {z : Int32} (h : sO r i) : ∀ (n k : Nat) (σ : sS), k + n ≤ 8 → f_X2_ponds r z n k σ i = σ i
  | 0, _, _, _ => rfl
  | n + 1, k, σ, hk => (k_ponds h n (k + 1) (f_X2_pond σ r k z) (by omega)).trans (k_pond (by have := h.2; omega))
theorem k_start {σ : sS} {r i : Nat} {x y : Int32} (h : i ≠ 1 + r) : f_X2_start σ r x y i = σ i := by
  unfold f_X2_start
  rw [va_up_ne _ _ h, va_up_ne _ _ h, va_up_ne _ _ h]
theorem k_day {σ : sS} {r i : Nat} {x y z : Int32} (h : sO r i) : f_X2_letDayGoBy σ r x y z i = σ i := by
  unfold f_X2_letDayGoBy
  rw [k_ponds h _ _ _ (by omega)]
  unfold f_X2_letBrineFlowOn
  rw [k_flow h _ _ (by omega), k_sea h, k_start h.1]
theorem k_days {r i : Nat} {x y z : Int32} (h : sO r i) : ∀ (n : Nat) (σ : sS), f_X3_days r x y z n σ i = σ i
  | 0, _ => rfl
  | n + 1, σ => (k_days h n (f_X2_letDayGoBy σ r x y z)).trans (k_day h)
theorem k_gates {r i : Nat} {x : Int32} (h : sO r i) : ∀ (n k : Nat) (σ : sS), k + n ≤ 8 → f_X2_gates r x n k σ i = σ i
  | 0, _, _, _ => rfl
  | n + 1, k, σ, hk => (k_gates h n (k + 1) _ (by omega)).trans (va_up_ne _ _ (by have := h.2; omega))
theorem k_cp {i : Nat} (h : sO 1 i) : ∀ (n k : Nat) (σ : sS), k + n ≤ 8 → f_X2_cp n k σ i = σ i
  | 0, _, _, _ => rfl
  | n + 1, k, σ, hk => (k_cp h n (k + 1) _ (by omega)).trans (va_up_ne _ _ (by have := h.2; omega))
theorem k_copy {σ : sS} {i : Nat} (h : sO 1 i) : f_X2_copyFrom σ i = σ i := (k_cp h 8 0 _ (by omega)).trans (va_up_ne _ _ h.1)
theorem sZ_of {σ τ : sS} (h : sZ σ) (hk : ∀ i, sO 1 i → τ i = σ i) : sZ τ := fun k hk8 q h1 h2 => by
  rw [hk _ ⟨by omega, by omega⟩]
  exact h k hk8 q h1 h2
def f_X3_withS (σ : sS) (g d : Nat) (x y : Int32) : sS := f_X3_days 1 x y 0 d (f_X2_setGates (f_X2_copyFrom σ) 1 (nI g))
def f_X3_withV (σ : sS) (g d : Nat) (x y : Int32) : Int32 := f_X2_saltInPans (f_X3_withS σ g d x y) 1
theorem k_with {σ : sS} {g d i : Nat} {x y : Int32} (h : sO 1 i) : f_X3_withS σ g d x y i = σ i := by
  unfold f_X3_withS f_X2_setGates
  rw [k_days h, k_gates h _ _ _ (by omega), k_copy h]
def f_X3_bestS (d : Nat) (x y : Int32) : Nat → Nat → sS → sS
  | 0, _, σ => σ
  | n + 1, k, σ => f_X3_bestS d x y n (k + 1) (f_X3_withS σ k d x y)
def f_X3_bestB (d : Nat) (x y : Int32) : Nat → Nat → sS → Int32 → Int32 → Int32
  | 0, _, _, b, _ => b
  | n + 1, k, σ, b, m => f_X3_bestB d x y n (k + 1) (f_X3_withS σ k d x y) (if f_X3_withV σ k d x y ≤ m then b else nI k) (if f_X3_withV σ k d x y ≤ m then m else f_X3_withV σ k d x y)
def f_X3_bestM (d : Nat) (x y : Int32) : Nat → Nat → sS → Int32 → Int32
  | 0, _, _, m => m
  | n + 1, k, σ, m => f_X3_bestM d x y n (k + 1) (f_X3_withS σ k d x y) (if f_X3_withV σ k d x y ≤ m then m else f_X3_withV σ k d x y)
def f_X3_bestGates (σ : sS) (d : Nat) (x y : Int32) : Int32 := f_X3_bestB d x y 256 0 σ 0 (-1)
theorem k_bestS {d i : Nat} {x y : Int32} (h : sO 1 i) : ∀ (n k : Nat) (σ : sS), f_X3_bestS d x y n k σ i = σ i
  | 0, _, _ => rfl
  | n + 1, k, σ => (k_bestS h n (k + 1) _).trans (k_with h)
def f_X3_crustS (q : Nat) (x y : Int32) : Nat → Nat → sS → sS
  | 0, _, σ => σ
  | n + 1, k, σ => if f_X2_letDayGoBy σ 1 x y 0 (5 + 8 * 1 + (5 + q)) 8 ≤ 0 then f_X3_crustS q x y n (k + 1) (f_X2_letDayGoBy σ 1 x y 0) else f_X2_letDayGoBy σ 1 x y 0
def f_X3_crustV (q : Nat) (x y : Int32) : Nat → Nat → sS → Int32
  | 0, _, _ => -1
  | n + 1, k, σ => if f_X2_letDayGoBy σ 1 x y 0 (5 + 8 * 1 + (5 + q)) 8 ≤ 0 then f_X3_crustV q x y n (k + 1) (f_X2_letDayGoBy σ 1 x y 0) else nI k
def f_X3_crustIn (σ : sS) (q : Nat) (x y : Int32) : sS := f_X3_crustS q x y 60 1 (f_X2_copyFrom σ)
def f_X3_crustInV (σ : sS) (q : Nat) (x y : Int32) : Int32 := f_X3_crustV q x y 60 1 (f_X2_copyFrom σ)
theorem k_crustS {q i : Nat} {x y : Int32} (h : sO 1 i) : ∀ (n k : Nat) (σ : sS), f_X3_crustS q x y n k σ i = σ i
  | 0, _, _ => rfl
  | n + 1, k, σ => by
    unfold f_X3_crustS
    split
    · exact (k_crustS h n (k + 1) _).trans (k_day h)
    · exact k_day h
theorem k_crustIn {σ : sS} {q i : Nat} {x y : Int32} (h : sO 1 i) : f_X3_crustIn σ q x y i = σ i := (k_crustS h _ _ _).trans (k_copy h)
def f_X3_tideV (x h : Int32) : Nat → Nat → sS → Int32
  | 0, _, _ => -1
  | n + 1, k, σ => if h = 0 then (if x < f_X3_tideAt (σ (1 + 0) 1 + nI k) then f_X3_tideV x h n (k + 1) σ else σ (1 + 0) 1 + nI k)
    else (if f_X3_tideAt (σ (1 + 0) 1 + nI k) < x then f_X3_tideV x h n (k + 1) σ else σ (1 + 0) 1 + nI k)
def f_X3_tideOn (σ : sS) (x h : Int32) : Int32 := f_X3_tideV x h 14 0 σ
def f_X3_many (σ : sS) (fc : Nat) : Nat → Int32
  | 0 => σ (1 + 0) 1
  | 1 => σ 0 3
  | 2 => f_X2_openGates σ 0
  | 3 => f_X2_coveredPans σ 0
  | 4 => σ (1 + 0) 4
  | 5 => f_X2_sumOfPonds σ 0 2
  | 6 => f_X2_sumOfPonds σ 0 6
  | 7 => f_X3_sumOfFamilies σ 0 fc
  | 8 => f_X3_sumOfFamilies σ 5 fc
  | 9 => σ 0 5
  | 10 => σ 0 6
  | 11 => σ 0 7
  | 12 => f_X2_sumOfPonds σ 0 7
  | 13 => σ 0 8
  | 14 => f_X2_sumOfPonds σ 0 1
  | 15 => f_X2_sumOfPonds σ 0 5
  | 16 => σ 0 4
  | _ => σ 0 9
def f_dg (d : Int64) (v : Int32) : Int64 := d * 31 + v.toInt64
def f_dgA (σ : sS) (j : Nat) : Nat → Nat → Int64 → Int64
  | 0, _, d => d
  | n + 1, k, d => f_dgA σ j n (k + 1) (d * 31 + (f_X0_read (σ (22 + j)) k).toInt64)
def f_dgB (σ : sS) (j : Nat) : Nat → Nat → Int64 → Int64
  | 0, _, d => d
  | n + 1, k, d => f_dgB σ j n (k + 1) (d * 31 + (σ (28 + j) k).toInt64)
def f_X3_digestOfFamily (σ : sS) (j : Nat) (d : Int64) : Int64 := f_dgB σ j 3 0 (f_dgA σ j 6 0 d)
def f_dgM (σ : sS) (fc : Nat) : Nat → Nat → Int64 → Int64
  | 0, _, d => d
  | n + 1, k, d => f_dgM σ fc n (k + 1) (d * 31 + (f_X3_many σ fc k).toInt64)
def f_dgR (f : Nat → Int32) : Nat → Nat → Int64 → Int64
  | 0, _, d => d
  | n + 1, k, d => f_dgR f n (k + 1) (d * 31 + (f_X1_read f k).toInt64)
def f_dgP (σ : sS) : Nat → Nat → Int64 → Int64
  | 0, _, d => d
  | n + 1, k, d => f_dgP σ n (k + 1) (f_dgR (σ (5 + 8 * 0 + k)) 11 0 d)
def f_dgF (σ : sS) : Nat → Nat → Int64 → Int64
  | 0, _, d => d
  | n + 1, k, d => f_dgF σ n (k + 1) (f_X3_digestOfFamily σ k d)
def f_dgC : Nat → Nat → sS → Int64 → Int64
  | 0, _, _, d => d
  | n + 1, k, σ, d => f_dgC n (k + 1) (f_X3_crustIn σ k 7 3) (d * 31 + (f_X3_crustInV σ k 7 3).toInt64)
def f_dgS : Nat → Nat → sS → sS
  | 0, _, σ => σ
  | n + 1, k, σ => f_dgS n (k + 1) (f_X3_crustIn σ k 7 3)
theorem k_dgS {i : Nat} (h : sO 1 i) : ∀ (n k : Nat) (σ : sS), f_dgS n k σ i = σ i
  | 0, _, _ => rfl
  | n + 1, k, σ => (k_dgS h n (k + 1) _).trans (k_crustIn h)
def f_X3_digestS (σ : sS) : sS := f_X3_bestS 3 6 2 256 0 (f_dgS 3 0 σ)
def f_X3_digest (σ : sS) (fc : Nat) : Int64 :=
  ((f_dgC 3 0 σ (f_dgF σ fc 0 (f_dgP σ 8 0 (f_dgM σ fc 18 0 7804))) * 31 + (f_X3_bestGates (f_dgS 3 0 σ) 3 6 2).toInt64) * 31 + (f_X3_tideOn (f_X3_digestS σ) 9 1).toInt64) * 31 + (f_X3_tideOn (f_X3_digestS σ) 3 0).toInt64
