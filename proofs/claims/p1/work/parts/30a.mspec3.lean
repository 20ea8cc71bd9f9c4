/-! The reference's new object: what all its numbers are. -/
def mFr (σ : sS) : Prop := (∀ k, k < 8 → ∀ j, 1 ≤ j → j < 10 → σ (2 + k) j = 0) ∧ (∀ k, k < 8 → σ (2 + k) 0 = 3) ∧ (∀ k, k < 8 → σ (2 + k) 10 = -1) ∧ σ 0 1 = 0 ∧ σ 0 2 = 0 ∧ (∀ j, 3 ≤ j → j < 11 → σ 10 j = 0) ∧ σ 11 2 = 0
theorem mFr_thr {σ : sS} {v : Int32} (h : mFr σ) : mFr (m_thr σ v) := by
  obtain ⟨h1, h2, h3, h4, h5, h6, h7⟩ := h
  refine ⟨fun k hk j a b => ?_, fun k hk => ?_, fun k hk => ?_, ?_, ?_, fun j a b => ?_, ?_⟩
  · rw [m_thr_ne (by omega)]; exact h1 k hk j a b
  · rw [m_thr_ne (by omega)]; exact h2 k hk
  · rw [m_thr_ne (by omega)]; exact h3 k hk
  · exact h4
  · exact h5
  · unfold m_thr
    rw [va_up_self]
    show upd (σ 10) 0 v j = 0
    unfold upd
    rw [if_neg (by omega)]
    exact h6 j a b
  · exact h7
theorem mFr_ar {σ : sS} (h : mFr σ) : mAr σ := fun k hk => by rw [h.2.1 k hk]; decide
theorem mFr_z {σ : sS} (h : mFr σ) : mZ σ := fun k hk => ⟨Or.inl (h.1 k hk 8 (by decide) (by decide)), Or.inl (h.1 k hk 9 (by decide) (by decide))⟩
theorem m_noFam (x : Int32) : g_X6_isIn x 0 (0 - 1) = 0 := by
  unfold g_X6_isIn
  split
  · rfl
  · next h => rw [if_pos (Int32.lt_iff_toInt_lt.mpr (by
      have h2 : ¬ x.toInt < (0 : Int32).toInt := fun q => h (Int32.lt_iff_toInt_lt.mpr q)
      have h3 : ((0 : Int32) - 1).toInt = -1 := rfl
      have h4 : (0 : Int32).toInt = 0 := rfl
      omega))]
theorem m_or0 {k : Nat} (h : k < 8) : (0 : Int32) ||| (g_X6_one 0 <<< (nI k &&& 31)) = 0 := by
  rcases (show k = 0 ∨ k = 1 ∨ k = 2 ∨ k = 3 ∨ k = 4 ∨ k = 5 ∨ k = 6 ∨ k = 7 by omega) with rfl | rfl | rfl | rfl | rfl | rfl | rfl | rfl <;> rfl
theorem m_updz (k : Nat) : upd (fun _ => (0 : Int32)) k 0 = fun _ => 0 := by
  funext j
  unfold upd
  split <;> rfl
theorem w_top0 {p : Program} {l : Launch} {e : Env} {R : Room} {s : State} {m : MethodId} {args : Array Value} {below : List Frame} {meth : Method} {c : Code} {H : Heap} {locs : List Loc} {cells slots : Nat} {Q : State → Prop} {pc : Nat} {ls : Array Slot} {rest : List Value} {x v : Int32} (h : x = v) (k : W p l e R s m args below meth c H locs cells slots Q (F0 m pc ls (.int v :: rest))) : W p l e R s m args below meth c H locs cells slots Q (F0 m pc ls (.int x :: rest)) := by rw [h]; exact k
/-- one thing of the world, alone -/
theorem mP_one {D : va_G} {a : Nat → Nat} {cs : Nat → ClassId} {N : Nat} {ρ : sS} {xs : va_W} {A : Nat → Prop} {H0 H : Heap} {locs : List Loc} {i : Nat} (hw : mH D a cs N A H0 ρ xs H locs) (hi : i < N) : va_P D vwCl [(a i, mE a cs i (ρ i))] H := hw.1.by (fun _ => i) (fun j r hj => by
  have hj0 : j < 1 := (List.getElem?_eq_some_iff.mp hj).1
  rw [show j = 0 by omega] at hj
  cases hj
  exact mX_get hi)
theorem mD_one {D : va_G} {a : Nat → Nat} {cs : Nat → ClassId} {N : Nat} {ρ : sS} {xs : va_W} {A : Nat → Prop} {H0 H : Heap} {locs : List Loc} {i : Nat} (hw : mH D a cs N A H0 ρ xs H locs) (hi : i < N) : va_D A [(a i, mE a cs i (ρ i))] := hw.2.1.by (fun _ => i) (fun j r hj => by
  have hj0 : j < 1 := (List.getElem?_eq_some_iff.mp hj).1
  rw [show j = 0 by omega] at hj
  cases hj
  exact mX_get hi) (fun i j hi hj _ => by
    have : i < 1 := hi
    have : j < 1 := hj
    omega)
theorem mA_one {D : va_G} {a : Nat → Nat} {cs : Nat → ClassId} {N : Nat} {ρ : sS} {xs : va_W} {A : Nat → Prop} {H0 H : Heap} {locs : List Loc} {i : Nat} (hw : mH D a cs N A H0 ρ xs H locs) (hA : ∀ q, H0.size ≤ q → A q) (hi : i < N) : ∀ q, va_A [(a i, mE a cs i (ρ i))] H.size q → A q := by
  rintro q (⟨j, e, hj⟩ | h)
  · exact (mD_one hw hi).2 j _ hj
  · exact hA q (Nat.le_trans hw.2.2.1 h)
theorem mP_two {D : va_G} {a : Nat → Nat} {cs : Nat → ClassId} {N : Nat} {ρ : sS} {xs : va_W} {A : Nat → Prop} {H0 H : Heap} {locs : List Loc} {i j q : Nat} {ex : va_E} (hw : mH D a cs N A H0 ρ xs H locs) (hi : i < N) (hj : xs[j]? = some (q, ex)) : va_P D vwCl [(q, ex), (a i, mE a cs i (ρ i))] H := hw.1.by (fun k => if k = 0 then N + j else i) (fun k r hk => by
  have hk0 : k < 2 := (List.getElem?_eq_some_iff.mp hk).1
  rcases (show k = 0 ∨ k = 1 by omega) with rfl | rfl
  · cases hk
    rw [if_pos rfl, mX_x]
    exact hj
  · cases hk
    rw [if_neg (by omega)]
    exact mX_get hi)
def g_X6_add (d v : Int64) : Int64 := d * 31 + v
def g_dgM : Nat → Int64 → Int64
  | 0, d => d
  | n + 1, d => g_dgM n (g_X6_add d (0 : Int32).toInt64)
def g_dgR (f : Nat → Int32) : Nat → Nat → Int64 → Int64
  | 0, _, d => d
  | n + 1, k, d => g_dgR f n (k + 1) (g_X6_add d (g_tell f k).toInt64)
def g_dgP (σ : sS) : Nat → Nat → Int64 → Int64
  | 0, _, d => d
  | n + 1, k, d => g_dgP σ n (k + 1) (g_dgR (σ (2 + k)) 11 0 d)
def g_dgC (σ : sS) : Nat → Nat → Int64 → Int64
  | 0, _, d => d
  | n + 1, k, d => g_dgC σ n (k + 1) (g_X6_add d (g_X6_crustB σ k 7 3).toInt64)
def g_X6_digest (σ : sS) : Int64 := g_X6_add (g_X6_add (g_X6_add (g_dgC σ 3 0 (g_dgP σ 8 0 (g_dgM 18 7804))) (g_X6_best σ 3 6 2).toInt64) (g_X6_tideV 9 1 14 0).toInt64) (g_X6_tideV 3 0 14 0).toInt64
