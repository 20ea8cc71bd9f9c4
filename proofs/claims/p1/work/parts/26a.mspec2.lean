/-! What would be, as the reference asks it: numbers, rows that were copied. -/
theorem mZ_thr {σ : sS} {v : Int32} (h : mZ σ) : mZ (m_thr σ v) := fun k hk => by rw [m_thr_ne (by omega)]; exact h k hk
theorem mAr_cp {σ : sS} (h : mAr σ) : ∀ (n k : Nat) (τ : sS), mAr τ → k + n ≤ 8 → mAr (g_cp σ n k τ)
  | 0, _, _, ht, _ => ht
  | n + 1, k, τ, ht, hk => mAr_cp h n (k + 1) _ (fun j hj => by
    by_cases e : j = k
    · subst e; rw [va_up_self]; exact h j hj
    · rw [va_up_ne _ _ (by omega)]; exact ht j hj) (by omega)
theorem mAr_row0 : mAr m_row0 := fun k hk => by
  unfold m_row0
  rw [if_pos (by omega)]
  decide
theorem mAr_copy {σ : sS} (h : mAr σ) : mAr (g_copy σ) := fun k hk => by
  unfold g_copy
  rw [va_up_ne _ _ (by omega)]
  exact mAr_cp h 8 0 m_row0 mAr_row0 (by omega) k hk
def g_gates (x : Int32) : Nat → Nat → sS → sS
  | 0, _, σ => σ
  | n + 1, k, σ => g_gates x n (k + 1) (va_up σ (2 + k) (upd (σ (2 + k)) 8 (f_bit x k)))
theorem mAr_gates {x : Int32} : ∀ (n k : Nat) (σ : sS), mAr σ → mAr (g_gates x n k σ)
  | 0, _, _, h => h
  | n + 1, k, σ, h => mAr_gates n (k + 1) (va_up σ (2 + k) (upd (σ (2 + k)) 8 (f_bit x k))) (mAr_up h rfl)
def g_ssum (σ : sS) : Nat → Nat → Int32 → Int32
  | 0, _, v => v
  | n + 1, k, v => g_ssum σ n (k + 1) (v + (σ (2 + k) 2 + σ (2 + k) 6))
def g_X6_withV (σ : sS) (g d : Nat) (x y : Int32) : Int32 := g_ssum (g_X6_days x y 0 d (g_gates (nI g) 8 0 (g_copy σ))) 3 5 0
def g_bestB (σ : sS) (d : Nat) (x y : Int32) : Nat → Nat → Int32 → Int32 → Int32
  | 0, _, b, _ => b
  | n + 1, k, b, u => if u < g_X6_withV σ k d x y then g_bestB σ d x y n (k + 1) (nI k) (g_X6_withV σ k d x y) else g_bestB σ d x y n (k + 1) b u
def g_bestM (σ : sS) (d : Nat) (x y : Int32) : Nat → Nat → Int32 → Int32
  | 0, _, u => u
  | n + 1, k, u => if u < g_X6_withV σ k d x y then g_bestM σ d x y n (k + 1) (g_X6_withV σ k d x y) else g_bestM σ d x y n (k + 1) u
def g_X6_best (σ : sS) (d : Nat) (x y : Int32) : Int32 := g_bestB σ d x y 256 0 0 (-1)
def g_X6_crustV (q : Nat) (x y : Int32) : Nat → Nat → sS → Int32
  | 0, _, _ => -1
  | n + 1, k, τ => if g_X5_made τ x y 0 (5 + q) ≤ 0 then g_X6_crustV q x y n (k + 1) (g_X5_day τ x y 0) else nI k
def g_X6_crustB (σ : sS) (q : Nat) (x y : Int32) : Int32 := g_X6_crustV q x y 60 1 (g_copy σ)
/-- a row comes, copied: its world is at the front from here on -/
theorem mc_copy {p : Program} {l : Launch} {e : Env} {R : Room} {s : State} {m : MethodId} {args : Array Value} {below : List Frame} {meth : Method} {c : Code} {H : Heap} {locs : List Loc} {cells slots : Nat} {Q : State → Prop} {pc : Nat} {ls : Array Slot} {rest : List Value} {D : va_G} {A : Nat → Prop} {a : Nat → Nat} {cs : Nat → ClassId} {N : Nat} {ρ : sS} {H0 : Heap} {st0 : List Value} {av : Array Value} {mc ms : Nat}
    (hr : va_Run p l e R s m args below meth c H locs cells slots mc ms (F0 m pc ls st0) rest (mCQ D a cs N ρ H.size av) (mA a N H.size)) (hw : mH D a cs N A H0 ρ [] H locs) (hA : ∀ q, H0.size ≤ q → A q)
    (kk : ∀ (u : Nat → Nat) (H1 : Heap) (locs1 : List Loc), mH D u cs 10 A H0 (g_copy ρ) (mW N a cs ρ) H1 locs1 → W p l e R s m args below meth c H1 locs1 (cells + mc) (slots + ms) Q (F0 m (pc + 3) ls (.ref (u 0) :: rest))) : W p l e R s m args below meth c H locs cells slots Q (F0 m pc ls st0) :=
  va_callr hr hw.2.2 (fun q _ h => mA_sub hw hA h) (fun q h => mA_sub hw hA h) (fun u r t H1 locs1 ht _ _ hB _ hk hS => by
    obtain ⟨hr0, hP, hD⟩ := hB
    rw [ht] at hP
    subst hr0
    have h0 : mH D a cs N A H0 ρ (mW 10 u cs (g_copy ρ)) H1 locs1 := ⟨hP, hD.weaken (fun _ _ _ h => mA_sub hw hA h), hS⟩
    exact kk u H1 locs1 (mH_swap h0))
