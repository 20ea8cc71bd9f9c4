/-! THE REFERENCE'S WORLD: cell 0 its row, 1 the row's array of ponds, 2 + k the pond k, 10 the object, 11 its list (of whose array only the address a 12 is told). N cells of these are in a world (10: a row that was copied; 12: all); xs: what else is at hand (arrays of numbers). -/
abbrev kX4 : Nat := 6
theorem kcX4 : vwCl[kX4]? = some (RX4, TX4, 11) := rfl
abbrev kX5 : Nat := 7
theorem kcX5 : vwCl[kX5]? = some (RX5, TX5, 3) := rfl
abbrev kX6 : Nat := 8
theorem kcX6 : vwCl[kX6]? = some (RX6, TX6, 11) := rfl
abbrev kJL : Nat := 1
theorem kcJL : vwCl[kJL]? = some (RJx4a65c, TJx4a65c, 3) := rfl
abbrev kJI : Nat := 0
theorem kcJI : vwCl[kJI]? = some (RJx35411, TJx35411, 4) := rfl
def mPv (f : Nat → Int32) : List Value := [.int (f 0), .int (f 1), .int (f 2), .int (f 3), .int (f 4), .int (f 5), .int (f 6), .int (f 7), .int (f 8), .int (f 9), .int (f 10)]
def mRv (q : Nat) (f : Nat → Int32) : List Value := [.ref q, .int (f 1), .int (f 2)]
def mOv (q1 q2 : Nat) (f : Nat → Int32) : List Value := [.int (f 0), .ref q1, .ref q2, .int (f 3), .int (f 4), .int (f 5), .int (f 6), .int (f 7), .int (f 8), .int (f 9), .int (f 10)]
def mLv (q : Nat) (f : Nat → Int32) : List Value := [.int (f 0), .ref q, .int (f 2)]
def mE (a : Nat → Nat) (cs : Nat → ClassId) (i : Nat) (f : Nat → Int32) : va_E :=
  if i = 0 then .inr (kX5, mRv (a 1) f)
  else if i = 1 then .inl (cs 0, sQs (fun k => a (2 + k)) 8)
  else if i < 10 then .inr (kX4, mPv f)
  else if i = 10 then .inr (kX6, mOv (a 0) (a 11) f)
  else .inr (kJL, mLv (a 12) f)
def mW (N : Nat) (a : Nat → Nat) (cs : Nat → ClassId) (ρ : sS) : va_W := (List.range N).map (fun i => (a i, mE a cs i (ρ i)))
abbrev mT (cs : Nat → ClassId) : List (ClassId × FieldType) := [(cs 0, .object "SaltRowModel$Pond"), (cs 1, .int)]
def mA (a : Nat → Nat) (N sz : Nat) : Nat → Prop := fun q => (∃ i, i < N ∧ q = a i) ∨ sz ≤ q
theorem mE_r {a : Nat → Nat} {cs : Nat → ClassId} {f : Nat → Int32} : mE a cs 0 f = .inr (kX5, mRv (a 1) f) := rfl
theorem mE_q {a : Nat → Nat} {cs : Nat → ClassId} {f : Nat → Int32} : mE a cs 1 f = .inl (cs 0, sQs (fun k => a (2 + k)) 8) := rfl
theorem mE_p {a : Nat → Nat} {cs : Nat → ClassId} {f : Nat → Int32} {i : Nat} (h : 2 ≤ i ∧ i < 10) : mE a cs i f = .inr (kX4, mPv f) := by
  unfold mE
  rw [if_neg (by omega), if_neg (by omega), if_pos h.2]
theorem mE_o {a : Nat → Nat} {cs : Nat → ClassId} {f : Nat → Int32} : mE a cs 10 f = .inr (kX6, mOv (a 0) (a 11) f) := rfl
theorem mE_l {a : Nat → Nat} {cs : Nat → ClassId} {f : Nat → Int32} : mE a cs 11 f = .inr (kJL, mLv (a 12) f) := rfl
theorem mW_len {N : Nat} {a : Nat → Nat} {cs : Nat → ClassId} {ρ : sS} : (mW N a cs ρ).length = N := by simp [mW]
theorem mW_get {N : Nat} {a : Nat → Nat} {cs : Nat → ClassId} {ρ : sS} {i : Nat} (h : i < N) : (mW N a cs ρ)[i]? = some (a i, mE a cs i (ρ i)) := by
  simp [mW, List.getElem?_map, List.getElem?_range h]
theorem mW_inv {N : Nat} {a : Nat → Nat} {cs : Nat → ClassId} {ρ : sS} {i : Nat} {q : Nat × va_E} (h : (mW N a cs ρ)[i]? = some q) : i < N ∧ q = (a i, mE a cs i (ρ i)) := by
  have hi : i < N := by have := (List.getElem?_eq_some_iff.mp h).1; rw [mW_len] at this; exact this
  rw [mW_get hi] at h
  exact ⟨hi, (Option.some.inj h).symm⟩
theorem mX_get {N : Nat} {a : Nat → Nat} {cs : Nat → ClassId} {ρ : sS} {xs : va_W} {i : Nat} (h : i < N) : (mW N a cs ρ ++ xs)[i]? = some (a i, mE a cs i (ρ i)) := by
  rw [List.getElem?_append_left (by rw [mW_len]; exact h), mW_get h]
theorem mX_x {N : Nat} {a : Nat → Nat} {cs : Nat → ClassId} {ρ : sS} {xs : va_W} {j : Nat} : (mW N a cs ρ ++ xs)[N + j]? = xs[j]? := by
  rw [List.getElem?_append_right (by rw [mW_len]; omega), mW_len, Nat.add_sub_cancel_left]
theorem mW_set {N : Nat} {a : Nat → Nat} {cs : Nat → ClassId} {ρ : sS} {i : Nat} (h : i < N) (f : Nat → Int32) : (mW N a cs ρ).set i (a i, mE a cs i f) = mW N a cs (va_up ρ i f) := by
  apply List.ext_getElem?
  intro j
  by_cases hj : j = i
  · subst hj
    rw [List.getElem?_set_self (by rw [mW_len]; exact h), mW_get h, va_up_self]
  · rw [List.getElem?_set_ne (Ne.symm hj)]
    by_cases hl : j < N
    · rw [mW_get hl, mW_get hl, va_up_ne _ _ hj]
    · rw [List.getElem?_eq_none (by rw [mW_len]; omega), List.getElem?_eq_none (by rw [mW_len]; omega)]
theorem mX_set {N : Nat} {a : Nat → Nat} {cs : Nat → ClassId} {ρ : sS} {xs : va_W} {i : Nat} (h : i < N) (f : Nat → Int32) : (mW N a cs ρ ++ xs).set i (a i, mE a cs i f) = mW N a cs (va_up ρ i f) ++ xs := by
  rw [List.set_append_left _ _ (by rw [mW_len]; exact h), mW_set h]
theorem mX_setx {N : Nat} {a : Nat → Nat} {cs : Nat → ClassId} {ρ : sS} {xs : va_W} {j : Nat} (q : Nat × va_E) : (mW N a cs ρ ++ xs).set (N + j) q = mW N a cs ρ ++ xs.set j q := by
  rw [List.set_append_right _ _ (by rw [mW_len]; omega), mW_len, Nat.add_sub_cancel_left]
theorem mP_pre {D : va_G} {N : Nat} {a : Nat → Nat} {cs : Nat → ClassId} {ρ : sS} {xs : va_W} {H : Heap} (h : va_P D vwCl (mW N a cs ρ ++ xs) H) : va_P D vwCl (mW N a cs ρ) H := fun k q hk => h k q (by
  obtain ⟨hi, rfl⟩ := mW_inv hk
  exact mX_get hi)
theorem mP_suf {D : va_G} {N : Nat} {a : Nat → Nat} {cs : Nat → ClassId} {ρ : sS} {xs : va_W} {H : Heap} (h : va_P D vwCl (mW N a cs ρ ++ xs) H) : va_P D vwCl xs H := fun k q hk => h (N + k) q (by rw [mX_x]; exact hk)
theorem mD_pre {A : Nat → Prop} {N : Nat} {a : Nat → Nat} {cs : Nat → ClassId} {ρ ρ' : sS} {xs : va_W} (h : va_D A (mW N a cs ρ ++ xs)) : va_D A (mW N a cs ρ') := by
  refine ⟨fun i j p q hp hq e => ?_, fun k q hk => ?_⟩
  · obtain ⟨hi, rfl⟩ := mW_inv hp
    obtain ⟨hj, rfl⟩ := mW_inv hq
    exact h.1 i j _ _ (mX_get hi) (mX_get hj) e
  · obtain ⟨hi, rfl⟩ := mW_inv hk
    exact h.2 k (a k, mE a cs k (ρ k)) (mX_get hi)
theorem mD_to {A : Nat → Prop} {N : Nat} {a : Nat → Nat} {cs : Nat → ClassId} {ρ ρ' : sS} {xs : va_W} (h : va_D A (mW N a cs ρ ++ xs)) : va_D A (mW N a cs ρ' ++ xs) := by
  have key : ∀ (i : Nat) (q : Nat × va_E), (mW N a cs ρ' ++ xs)[i]? = some q → ∃ e, (mW N a cs ρ ++ xs)[i]? = some (q.1, e) := by
    intro i q hq
    by_cases hi : i < N
    · rw [mX_get hi] at hq
      cases hq
      exact ⟨_, mX_get hi⟩
    · obtain ⟨j, rfl⟩ : ∃ j, i = N + j := ⟨i - N, by omega⟩
      rw [mX_x] at hq
      exact ⟨q.2, by rw [mX_x]; exact hq⟩
  refine ⟨fun i j p q hp hq e => ?_, fun k q hk => ?_⟩
  · obtain ⟨e1, h1⟩ := key i p hp
    obtain ⟨e2, h2⟩ := key j q hq
    exact h.1 i j _ _ h1 h2 e
  · obtain ⟨e1, h1⟩ := key k q hk
    exact h.2 k (q.1, e1) h1
theorem mD_self {a : Nat → Nat} {N : Nat} {cs : Nat → ClassId} {ρ : sS} {A : Nat → Prop} {sz : Nat} (h : va_D A (mW N a cs ρ)) : va_D (mA a N sz) (mW N a cs ρ) := by
  refine ⟨h.1, fun k q hk => ?_⟩
  obtain ⟨hi, rfl⟩ := mW_inv hk
  exact Or.inl ⟨k, hi, rfl⟩
/-- the world at a point of a method -/
def mH (D : va_G) (a : Nat → Nat) (cs : Nat → ClassId) (N : Nat) (A : Nat → Prop) (H0 : Heap) (ρ : sS) (xs : va_W) (H : Heap) (locs : List Loc) : Prop := va_P D vwCl (mW N a cs ρ ++ xs) H ∧ va_D A (mW N a cs ρ ++ xs) ∧ va_S A H0 H locs
/-- the links of nest mates that the reference's methods need -/
def mN (U : State) : Prop := va_Nw (.methodLinkNest RX5 17 yX4_init RX6) U ∧ va_Nw (.methodLinkNest RX5 27 yX6_tideOf RX6) U ∧ va_Nw (.methodLinkNest RX4 57 yX6_share RX6) U ∧ va_AO "SaltRowModel$Pond" U ∧ va_Nw (.fieldLinkNest RJx35411 28 "java/util/ArrayList" "size" "I" "java/util/ArrayList") U ∧ va_Fw RJx35411 ⟨"java/util/Iterator", "hasNext", "()Z"⟩ yJx35411_hasNext_aae02 U
theorem mN_X5_X4_init {U : State} (h : mN U) : va_Nw (.methodLinkNest RX5 17 yX4_init RX6) U := h.1
theorem mN_X5_X6_tideOf {U : State} (h : mN U) : va_Nw (.methodLinkNest RX5 27 yX6_tideOf RX6) U := h.2.1
theorem mN_X4_X6_share {U : State} (h : mN U) : va_Nw (.methodLinkNest RX4 57 yX6_share RX6) U := h.2.2.1
theorem mN_AO {U : State} (h : mN U) : va_AO "SaltRowModel$Pond" U := h.2.2.2.1
theorem mN_SZ {U : State} (h : mN U) : va_Nw (.fieldLinkNest RJx35411 28 "java/util/ArrayList" "size" "I" "java/util/ArrayList") U := h.2.2.2.2.1
theorem mN_HN {U : State} (h : mN U) : va_Fw RJx35411 ⟨"java/util/Iterator", "hasNext", "()Z"⟩ yJx35411_hasNext_aae02 U := h.2.2.2.2.2
theorem mN_same {u U : State} (h : u.vm = U.vm) (hN : mN u) : mN U := ⟨va_Nw.same rfl h (mN_X5_X4_init hN), va_Nw.same rfl h (mN_X5_X6_tideOf hN), va_Nw.same rfl h (mN_X4_X6_share hN), va_AO.moved (u := u) (U := U) (by rw [h]; exact Vm.Alike.refl U.vm) (mN_AO hN), va_Nw.same rfl h (mN_SZ hN), va_Fw.moved ⟨by decide, by decide⟩ (by rw [h]; exact Vm.Alike.refl U.vm) (mN_HN hN)⟩
theorem mN_warm {s U : State} (h : s.WarmedH U.vm) (hN : mN s) : mN U := ⟨va_Nw.warmM h (mN_X5_X4_init hN), va_Nw.warmM h (mN_X5_X6_tideOf hN), va_Nw.warmM h (mN_X4_X6_share hN), va_AO.moved h.alike (mN_AO hN), va_Nw.warmF h (mN_SZ hN), va_Fw.moved ⟨by decide, by decide⟩ h.alike (mN_HN hN)⟩
/-- a method's start -/
def mB (D : va_G) (a : Nat → Nat) (cs : Nat → ClassId) (N : Nat) (ρ : sS) (sz : Nat) (U : State) : Prop := U.heap.size = sz ∧ va_P D vwCl (mW N a cs ρ) U.heap ∧ va_K D vwCl (mT cs) U ∧ va_D (fun _ => True) (mW N a cs ρ) ∧ mN U
theorem mB_blind {D : va_G} {a : Nat → Nat} {cs : Nat → ClassId} {N : Nat} {ρ : sS} {sz : Nat} {av : List Value} : FrameBlind (va_Pc av (mB D a cs N ρ sz)) := fun v U g mk q => by
  obtain ⟨q0, q1, qP, qK, qD, qN⟩ := q
  exact ⟨q0, q1, qP, va_K.moved (u := U) (U := U.calling g mk v) (Vm.Alike.refl U.vm) qK, qD, mN_same (u := U) (U := U.calling g mk v) rfl qN⟩
theorem mB_of {D : va_G} {a : Nat → Nat} {cs : Nat → ClassId} {N : Nat} {ρ : sS} {xs : va_W} {A : Nat → Prop} {H0 H : Heap} {locs : List Loc} {s U : State} (hK : va_K D vwCl (mT cs) s) (hN : mN s) (hw : mH D a cs N A H0 ρ xs H locs) (hU : U.heap = H) (hW : s.WarmedH U.vm) : mB D a cs N ρ H.size U := ⟨by rw [hU], by rw [hU]; exact mP_pre hw.1, va_K.moved hW.alike hK, (mD_pre (ρ' := ρ) hw.2.1).weaken (fun _ _ _ _ => trivial), mN_warm hW hN⟩
/-- behind a call: what it changed, and what lay beside it -/
theorem mH_call {D : va_G} {a : Nat → Nat} {cs : Nat → ClassId} {N : Nat} {ρ ρ' : sS} {xs : va_W} {A : Nat → Prop} {H0 H H1 : Heap} {locs locs1 : List Loc} (hw : mH D a cs N A H0 ρ xs H locs) (hP : va_P D vwCl (mW N a cs ρ') H1) (hk : ∀ q : Nat, q < H.size → ¬ mA a N H.size q → H1[q]? = H[q]?) (hS : va_S A H0 H1 locs1) : mH D a cs N A H0 ρ' xs H1 locs1 := by
  refine ⟨hP.app ((mP_suf hw.1).kept (fun k q hq => ?_)), mD_to hw.2.1, hS⟩
  refine hk q.1 ((mP_suf hw.1 k q hq).lt) ?_
  rintro (⟨i, hi, e⟩ | h)
  · have := hw.2.1.1 i (N + k) (a i, mE a cs i (ρ i)) q (mX_get hi) (by rw [mX_x]; exact hq) e.symm
    omega
  · exact absurd ((mP_suf hw.1 k q hq).lt) (Nat.not_lt.mpr h)
theorem mA_sub {D : va_G} {a : Nat → Nat} {cs : Nat → ClassId} {N : Nat} {ρ : sS} {xs : va_W} {A : Nat → Prop} {H0 H : Heap} {locs : List Loc} (hw : mH D a cs N A H0 ρ xs H locs) (hA : ∀ q, H0.size ≤ q → A q) {q : Nat} (h : mA a N H.size q) : A q := by
  rcases h with ⟨i, hi, rfl⟩ | h
  · exact hw.2.1.2 i _ (mX_get hi)
  · exact hA q (Nat.le_trans hw.2.2.1 h)
theorem mH_start {D : va_G} {a : Nat → Nat} {cs : Nat → ClassId} {N : Nat} {ρ : sS} {U : State} (h : mB D a cs N ρ U.heap.size U) : mH D a cs N (mA a N U.heap.size) U.heap ρ [] U.heap [] := ⟨by rw [List.append_nil]; exact h.2.1, by rw [List.append_nil]; exact mD_self h.2.2.2.1, va_S.rf⟩
theorem mA_new {a : Nat → Nat} {N sz : Nat} : ∀ q : Nat, sz ≤ q → mA a N sz q := fun _ h => Or.inr h
theorem mH_foc {D : va_G} {a : Nat → Nat} {cs : Nat → ClassId} {N : Nat} {ρ : sS} {xs : va_W} {A : Nat → Prop} {H0 H : Heap} {locs : List Loc} {i : Nat} (hw : mH D a cs N A H0 ρ xs H locs) : mH D a cs N A H0 (va_up ρ i (ρ i)) xs H locs := by rw [sup_id]; exact hw
theorem mH_unf {D : va_G} {a : Nat → Nat} {cs : Nat → ClassId} {N : Nat} {ρ : sS} {xs : va_W} {A : Nat → Prop} {H0 H : Heap} {locs : List Loc} {i : Nat} (hw : mH D a cs N A H0 (va_up ρ i (ρ i)) xs H locs) : mH D a cs N A H0 ρ xs H locs := by rw [sup_id] at hw; exact hw
/-- arrays of numbers that came are let go -/
theorem mH_drop {D : va_G} {a : Nat → Nat} {cs : Nat → ClassId} {N : Nat} {ρ : sS} {xs : va_W} {A : Nat → Prop} {H0 H : Heap} {locs : List Loc} (hw : mH D a cs N A H0 ρ xs H locs) : mH D a cs N A H0 ρ [] H locs := ⟨by rw [List.append_nil]; exact mP_pre hw.1, by rw [List.append_nil]; exact mD_pre hw.2.1, hw.2.2⟩
theorem mH_dropx {D : va_G} {a : Nat → Nat} {cs : Nat → ClassId} {N : Nat} {ρ : sS} {xs ys : va_W} {A : Nat → Prop} {H0 H : Heap} {locs : List Loc} (hw : mH D a cs N A H0 ρ (xs ++ ys) H locs) : mH D a cs N A H0 ρ xs H locs := by
  have hg : ∀ (k : Nat) (q : Nat × va_E), (mW N a cs ρ ++ xs)[k]? = some q → (mW N a cs ρ ++ (xs ++ ys))[k]? = some q := fun k q hk => by
    rw [← List.append_assoc, List.getElem?_append_left (List.getElem?_eq_some_iff.mp hk).1]
    exact hk
  exact ⟨hw.1.by id hg, hw.2.1.by id hg (fun i j _ _ h => h), hw.2.2⟩
/-- the other row's world comes to the front -/
theorem mH_swap {D : va_G} {a b : Nat → Nat} {cs : Nat → ClassId} {N M : Nat} {ρ τ : sS} {A : Nat → Prop} {H0 H : Heap} {locs : List Loc} (hw : mH D a cs N A H0 ρ (mW M b cs τ) H locs) : mH D b cs M A H0 τ (mW N a cs ρ) H locs := by
  refine ⟨?_, ?_, hw.2.2⟩
  · have h := va_P.swap (a := []) (b := mW N a cs ρ) (c := mW M b cs τ) (by rw [List.nil_append]; exact hw.1)
    rw [List.nil_append] at h
    exact h
  · have h := va_D.swap (a := []) (b := mW N a cs ρ) (c := mW M b cs τ) (by rw [List.nil_append]; exact hw.2.1)
    rw [List.nil_append] at h
    exact h
/-- contracts over the reference's world -/
def mMi (l : Launch) (y : MethodName) (ws : List Cond) (rm : Room) (mc ms : Nat) (D : va_G) (a : Nat → Nat) (cs : Nat → ClassId) (N : Nat) (av : List Value) (ρ : sS) (v : Int32) (ρ' : sS) : Prop := ∀ sz : Nat, Met l y ws rm (va_Pc av (mB D a cs N ρ sz)) (va_Qi (fun r (_ : Unit) => r = v) (fun _ t => va_P D vwCl (mW N a cs ρ') t.heap) (mA a N sz)) mc ms (mA a N sz)
def mMl (l : Launch) (y : MethodName) (ws : List Cond) (rm : Room) (mc ms : Nat) (D : va_G) (a : Nat → Nat) (cs : Nat → ClassId) (N : Nat) (av : List Value) (ρ : sS) (v : Int64) (ρ' : sS) : Prop := ∀ sz : Nat, Met l y ws rm (va_Pc av (mB D a cs N ρ sz)) (va_Ql (fun r (_ : Unit) => r = v) (fun _ t => va_P D vwCl (mW N a cs ρ') t.heap) (mA a N sz)) mc ms (mA a N sz)
def mMv (l : Launch) (y : MethodName) (ws : List Cond) (rm : Room) (mc ms : Nat) (D : va_G) (a : Nat → Nat) (cs : Nat → ClassId) (N : Nat) (av : List Value) (ρ ρ' : sS) : Prop := ∀ sz : Nat, Met l y ws rm (va_Pc av (mB D a cs N ρ sz)) (va_Qv (fun (_ : Unit) => True) (fun _ t => va_P D vwCl (mW N a cs ρ') t.heap) (mA a N sz)) mc ms (mA a N sz)
/-- an answer that is an array of numbers, just made -/
def mMr (l : Launch) (y : MethodName) (ws : List Cond) (rm : Room) (mc ms : Nat) (D : va_G) (a : Nat → Nat) (cs : Nat → ClassId) (N : Nat) (av : List Value) (ρ : sS) (n : Nat) (v : Nat → Int32) (ρ' : sS) : Prop := ∀ sz : Nat, Met l y ws rm (va_Pc av (mB D a cs N ρ sz)) (va_Qr (fun (_ : Unit) => True) (fun _ q t => va_P D vwCl (mW N a cs ρ' ++ [(q, .inl (cs 1, n, .inl v))]) t.heap ∧ va_D (mA a N sz) (mW N a cs ρ' ++ [(q, .inl (cs 1, n, .inl v))])) (mA a N sz)) mc ms (mA a N sz)
theorem mPv_get {f : Nat → Int32} {k : Nat} (h : k < 11) : (mPv f)[k]? = some (.int (f k)) := by
  rcases (show k = 0 ∨ k = 1 ∨ k = 2 ∨ k = 3 ∨ k = 4 ∨ k = 5 ∨ k = 6 ∨ k = 7 ∨ k = 8 ∨ k = 9 ∨ k = 10 by omega) with rfl | rfl | rfl | rfl | rfl | rfl | rfl | rfl | rfl | rfl | rfl <;> rfl
theorem mPv_set {f : Nat → Int32} {k : Nat} (h : k < 11) (v : Int32) : (mPv f).set k (.int v) = mPv (upd f k v) := by
  rcases (show k = 0 ∨ k = 1 ∨ k = 2 ∨ k = 3 ∨ k = 4 ∨ k = 5 ∨ k = 6 ∨ k = 7 ∨ k = 8 ∨ k = 9 ∨ k = 10 by omega) with rfl | rfl | rfl | rfl | rfl | rfl | rfl | rfl | rfl | rfl | rfl <;> rfl
theorem mRv_get {q : Nat} {f : Nat → Int32} {k : Nat} (h : 1 ≤ k ∧ k < 3) : (mRv q f)[k]? = some (.int (f k)) := by
  rcases (show k = 1 ∨ k = 2 by omega) with rfl | rfl <;> rfl
theorem mRv_set {q : Nat} {f : Nat → Int32} {k : Nat} (h : 1 ≤ k ∧ k < 3) (v : Int32) : (mRv q f).set k (.int v) = mRv q (upd f k v) := by
  rcases (show k = 1 ∨ k = 2 by omega) with rfl | rfl <;> rfl
theorem mOv_get {x y : Nat} {f : Nat → Int32} {k : Nat} (h : k = 0 ∨ (3 ≤ k ∧ k < 11)) : (mOv x y f)[k]? = some (.int (f k)) := by
  rcases (show k = 0 ∨ k = 3 ∨ k = 4 ∨ k = 5 ∨ k = 6 ∨ k = 7 ∨ k = 8 ∨ k = 9 ∨ k = 10 by omega) with rfl | rfl | rfl | rfl | rfl | rfl | rfl | rfl | rfl <;> rfl
theorem mOv_set {x y : Nat} {f : Nat → Int32} {k : Nat} (h : k = 0 ∨ (3 ≤ k ∧ k < 11)) (v : Int32) : (mOv x y f).set k (.int v) = mOv x y (upd f k v) := by
  rcases (show k = 0 ∨ k = 3 ∨ k = 4 ∨ k = 5 ∨ k = 6 ∨ k = 7 ∨ k = 8 ∨ k = 9 ∨ k = 10 by omega) with rfl | rfl | rfl | rfl | rfl | rfl | rfl | rfl | rfl <;> rfl
theorem mTX4 {k : Nat} (h : k < 11) : (TX4 k).1 = "SaltRowModel$Pond" ∧ (TX4 k).2.2.2 = false := by
  rcases (show k = 0 ∨ k = 1 ∨ k = 2 ∨ k = 3 ∨ k = 4 ∨ k = 5 ∨ k = 6 ∨ k = 7 ∨ k = 8 ∨ k = 9 ∨ k = 10 by omega) with rfl | rfl | rfl | rfl | rfl | rfl | rfl | rfl | rfl | rfl | rfl <;> exact ⟨rfl, rfl⟩
theorem mTX4i {k : Nat} (h : k < 8 ∨ k = 10) : parseFieldDescriptor (TX4 k).2.2.1 = some .int := by
  rw [tyX4_ok k (by omega)]
  rcases (show k = 0 ∨ k = 1 ∨ k = 2 ∨ k = 3 ∨ k = 4 ∨ k = 5 ∨ k = 6 ∨ k = 7 ∨ k = 10 by omega) with rfl | rfl | rfl | rfl | rfl | rfl | rfl | rfl | rfl <;> rfl
theorem mTX4z {k : Nat} (h : k = 8 ∨ k = 9) : parseFieldDescriptor (TX4 k).2.2.1 = some .boolean := by
  rw [tyX4_ok k (by omega)]
  rcases (show k = 8 ∨ k = 9 by omega) with rfl | rfl <;> rfl
theorem mTX5 {k : Nat} (h : 1 ≤ k ∧ k < 3) : (TX5 k).1 = "SaltRowModel$Row" ∧ (TX5 k).2.2.2 = false ∧ parseFieldDescriptor (TX5 k).2.2.1 = some .int := by
  rw [tyX5_ok k (by omega)]
  rcases (show k = 1 ∨ k = 2 by omega) with rfl | rfl <;> exact ⟨rfl, rfl, rfl⟩
theorem mTX6 {k : Nat} (h : k = 0 ∨ (3 ≤ k ∧ k < 11)) : (TX6 k).1 = "SaltRowModel" ∧ (TX6 k).2.2.2 = false ∧ parseFieldDescriptor (TX6 k).2.2.1 = some .int := by
  rw [tyX6_ok k (by omega)]
  rcases (show k = 0 ∨ k = 3 ∨ k = 4 ∨ k = 5 ∨ k = 6 ∨ k = 7 ∨ k = 8 ∨ k = 9 ∨ k = 10 by omega) with rfl | rfl | rfl | rfl | rfl | rfl | rfl | rfl | rfl <;> exact ⟨rfl, rfl, rfl⟩
section MW
variable {p : Program} {l : Launch} {e : Env} {R : Room} {s : State} {m : MethodId} {args : Array Value} {below : List Frame} {meth : Method} {c : Code} {H : Heap} {locs : List Loc} {cells slots : Nat} {Q : State → Prop}
variable {cc : ByteArray} {pc : Nat} {ls : Array Slot} {rest : List Value} {D : va_G} {A : Nat → Prop} {a : Nat → Nat} {cs : Nat → ClassId} {N : Nat} {ρ ρ' : sS} {xs : va_W} {H0 : Heap}

theorem mg_get (hx : p.tables.exec = Jvm.exec) (hb : c.code = cc) {own ref C : String} {T : u_T} {Nf ci index : Nat} {Ts : List Cond} (hts : ∀ w ∈ Ts, w.before args s = true) (hin : ∀ w ∈ u_ws C T Nf, w ∈ Ts) (hown : s.vm.findClass own = some m.cls) (hK : va_K D vwCl (mT cs) s) (hw : mH D a cs N A H0 ρ xs H locs) {i : Nat} (hi : i < N) {fs : List Value} (he : mE a cs i (ρ i) = .inr (ci, fs)) (hc : vwCl[ci]? = some (C, T, Nf)) (k : Nat) (hk : k < Nf) (hlink : (Cond.fieldLink own index ref (T k).2.1 (T k).2.2.1).before args s = true) (hsame : (T k).1 = ref) {v : Value} (hv : fs[k]? = some v) (hdg : decode cc pc = .ok (.getfield index, 3))
    (kk : W p l e R s m args below meth c H locs cells slots Q (F0 m (pc + 3) ls (v :: rest))) : W p l e R s m args below meth c H locs cells slots Q (F0 m pc ls (.ref (a i) :: rest)) :=
  va_get hx hb hts hin hown hK hw.1 i (by rw [mX_get hi, he]) hc k hk hlink (fun x h => by rw [← hsame]; exact h) hv hdg kk
theorem mg_put (hx : p.tables.exec = Jvm.exec) (hb : c.code = cc) {own ref C : String} {T : u_T} {Nf ci index : Nat} {Ts : List Cond} (hts : ∀ w ∈ Ts, w.before args s = true) (hin : ∀ w ∈ u_ws C T Nf, w ∈ Ts) {ty0 : Nat → FieldType} (hty : ∀ k, k < Nf → parseFieldDescriptor (T k).2.2.1 = some (ty0 k)) (hnm : ∀ a, a < Nf → ∀ b, b < Nf → a ≠ b → (T a).2.1 ≠ (T b).2.1) (hown : s.vm.findClass own = some m.cls) (hK : va_K D vwCl (mT cs) s) (hw : mH D a cs N A H0 ρ xs H locs) {i : Nat} (hi : i < N) {fs : List Value} (he : mE a cs i (ρ i) = .inr (ci, fs)) (hc : vwCl[ci]? = some (C, T, Nf)) (k : Nat) (hk : k < Nf) (hlink : (Cond.fieldLink own index ref (T k).2.1 (T k).2.2.1).before args s = true) (hsame : (T k).1 = ref) (hfin : (T k).2.2.2 = false) {ty : FieldType} {v : Value} (hd : parseFieldDescriptor (T k).2.2.1 = some ty) (hn : narrow ty v = v) (hfit : fits ty v = true) (hl : k < fs.length) (f : Nat → Int32) (hf : mE a cs i f = .inr (ci, fs.set k v)) (hdg : decode cc pc = .ok (.putfield index, 3))
    (kk : ∀ (H1 : Heap) (locs1 : List Loc), mH D a cs N A H0 (va_up ρ i f) xs H1 locs1 → W p l e R s m args below meth c H1 locs1 cells slots Q (F0 m (pc + 3) ls rest)) : W p l e R s m args below meth c H locs cells slots Q (F0 m pc ls (v :: .ref (a i) :: rest)) :=
  va_put hx hb hts hin ty0 hty hnm hown hK hw.1 hw.2.1 hw.2.2 i (by rw [mX_get hi, he]) hc k hk hlink (fun x h => by rw [← hsame]; exact h) hfin hd hn hfit hl hdg (fun H1 locs1 hP hD hS => kk H1 locs1 ⟨by rw [← hf, mX_set hi] at hP; exact hP, by rw [← hf, mX_set hi] at hD; exact hD, hS⟩)
theorem mg_p (hx : p.tables.exec = Jvm.exec) (hb : c.code = cc) {own : String} {index : Nat} {Ts : List Cond} (hts : ∀ w ∈ Ts, w.before args s = true) (hin : ∀ w ∈ wsX40, w ∈ Ts) (hown : s.vm.findClass own = some m.cls) (hK : va_K D vwCl (mT cs) s) (hw : mH D a cs N A H0 ρ xs H locs) {i : Nat} (hi : 2 ≤ i ∧ i < 10) (hN : 10 ≤ N) (k : Nat) (hk : k < 11) (hlink : (Cond.fieldLink own index "SaltRowModel$Pond" (TX4 k).2.1 (TX4 k).2.2.1).before args s = true) (hdg : decode cc pc = .ok (.getfield index, 3))
    (kk : W p l e R s m args below meth c H locs cells slots Q (F0 m (pc + 3) ls (.int (ρ i k) :: rest))) : W p l e R s m args below meth c H locs cells slots Q (F0 m pc ls (.ref (a i) :: rest)) :=
  mg_get hx hb hts hin hown hK hw (by omega) (mE_p hi) kcX4 k (by omega) hlink (mTX4 hk).1 (mPv_get hk) hdg kk
theorem mg_rq (hx : p.tables.exec = Jvm.exec) (hb : c.code = cc) {own : String} {index : Nat} {Ts : List Cond} (hts : ∀ w ∈ Ts, w.before args s = true) (hin : ∀ w ∈ wsX50, w ∈ Ts) (hown : s.vm.findClass own = some m.cls) (hK : va_K D vwCl (mT cs) s) (hw : mH D a cs N A H0 ρ xs H locs) (hN : 10 ≤ N) (hlink : (Cond.fieldLink own index "SaltRowModel$Row" (TX5 0).2.1 (TX5 0).2.2.1).before args s = true) (hdg : decode cc pc = .ok (.getfield index, 3))
    (kk : W p l e R s m args below meth c H locs cells slots Q (F0 m (pc + 3) ls (.ref (a 1) :: rest))) : W p l e R s m args below meth c H locs cells slots Q (F0 m pc ls (.ref (a 0) :: rest)) :=
  mg_get hx hb hts hin hown hK hw (by omega) mE_r kcX5 0 (by omega) hlink rfl rfl hdg kk
theorem mg_r (hx : p.tables.exec = Jvm.exec) (hb : c.code = cc) {own : String} {index : Nat} {Ts : List Cond} (hts : ∀ w ∈ Ts, w.before args s = true) (hin : ∀ w ∈ wsX50, w ∈ Ts) (hown : s.vm.findClass own = some m.cls) (hK : va_K D vwCl (mT cs) s) (hw : mH D a cs N A H0 ρ xs H locs) (hN : 10 ≤ N) (k : Nat) (hk : 1 ≤ k ∧ k < 3) (hlink : (Cond.fieldLink own index "SaltRowModel$Row" (TX5 k).2.1 (TX5 k).2.2.1).before args s = true) (hdg : decode cc pc = .ok (.getfield index, 3))
    (kk : W p l e R s m args below meth c H locs cells slots Q (F0 m (pc + 3) ls (.int (ρ 0 k) :: rest))) : W p l e R s m args below meth c H locs cells slots Q (F0 m pc ls (.ref (a 0) :: rest)) :=
  mg_get hx hb hts hin hown hK hw (by omega) mE_r kcX5 k (by omega) hlink (mTX5 hk).1 (mRv_get hk) hdg kk
theorem mg_o (hx : p.tables.exec = Jvm.exec) (hb : c.code = cc) {own : String} {index : Nat} {Ts : List Cond} (hts : ∀ w ∈ Ts, w.before args s = true) (hin : ∀ w ∈ wsX60, w ∈ Ts) (hown : s.vm.findClass own = some m.cls) (hK : va_K D vwCl (mT cs) s) (hw : mH D a cs N A H0 ρ xs H locs) (hN : 12 ≤ N) (k : Nat) (hk : k = 0 ∨ (3 ≤ k ∧ k < 11)) (hlink : (Cond.fieldLink own index "SaltRowModel" (TX6 k).2.1 (TX6 k).2.2.1).before args s = true) (hdg : decode cc pc = .ok (.getfield index, 3))
    (kk : W p l e R s m args below meth c H locs cells slots Q (F0 m (pc + 3) ls (.int (ρ 10 k) :: rest))) : W p l e R s m args below meth c H locs cells slots Q (F0 m pc ls (.ref (a 10) :: rest)) :=
  mg_get hx hb hts hin hown hK hw (by omega) mE_o kcX6 k (by omega) hlink (mTX6 hk).1 (mOv_get hk) hdg kk
theorem mg_o1 (hx : p.tables.exec = Jvm.exec) (hb : c.code = cc) {own : String} {index : Nat} {Ts : List Cond} (hts : ∀ w ∈ Ts, w.before args s = true) (hin : ∀ w ∈ wsX60, w ∈ Ts) (hown : s.vm.findClass own = some m.cls) (hK : va_K D vwCl (mT cs) s) (hw : mH D a cs N A H0 ρ xs H locs) (hN : 12 ≤ N) (hlink : (Cond.fieldLink own index "SaltRowModel" (TX6 1).2.1 (TX6 1).2.2.1).before args s = true) (hdg : decode cc pc = .ok (.getfield index, 3))
    (kk : W p l e R s m args below meth c H locs cells slots Q (F0 m (pc + 3) ls (.ref (a 0) :: rest))) : W p l e R s m args below meth c H locs cells slots Q (F0 m pc ls (.ref (a 10) :: rest)) :=
  mg_get hx hb hts hin hown hK hw (by omega) mE_o kcX6 1 (by omega) hlink rfl rfl hdg kk
theorem mg_o2 (hx : p.tables.exec = Jvm.exec) (hb : c.code = cc) {own : String} {index : Nat} {Ts : List Cond} (hts : ∀ w ∈ Ts, w.before args s = true) (hin : ∀ w ∈ wsX60, w ∈ Ts) (hown : s.vm.findClass own = some m.cls) (hK : va_K D vwCl (mT cs) s) (hw : mH D a cs N A H0 ρ xs H locs) (hN : 12 ≤ N) (hlink : (Cond.fieldLink own index "SaltRowModel" (TX6 2).2.1 (TX6 2).2.2.1).before args s = true) (hdg : decode cc pc = .ok (.getfield index, 3))
    (kk : W p l e R s m args below meth c H locs cells slots Q (F0 m (pc + 3) ls (.ref (a 11) :: rest))) : W p l e R s m args below meth c H locs cells slots Q (F0 m pc ls (.ref (a 10) :: rest)) :=
  mg_get hx hb hts hin hown hK hw (by omega) mE_o kcX6 2 (by omega) hlink rfl rfl hdg kk
theorem mp_p (hx : p.tables.exec = Jvm.exec) (hb : c.code = cc) {own : String} {index : Nat} {Ts : List Cond} (hts : ∀ w ∈ Ts, w.before args s = true) (hin : ∀ w ∈ wsX40, w ∈ Ts) (hown : s.vm.findClass own = some m.cls) (hK : va_K D vwCl (mT cs) s) (hw : mH D a cs N A H0 ρ xs H locs) {i : Nat} (hi : 2 ≤ i ∧ i < 10) (hN : 10 ≤ N) (k : Nat) {v : Int32} (hk : k < 8 ∨ k = 10) (hlink : (Cond.fieldLink own index "SaltRowModel$Pond" (TX4 k).2.1 (TX4 k).2.2.1).before args s = true) (hdg : decode cc pc = .ok (.putfield index, 3))
    (kk : ∀ (H1 : Heap) (locs1 : List Loc), mH D a cs N A H0 (va_up ρ i (upd (ρ i) k v)) xs H1 locs1 → W p l e R s m args below meth c H1 locs1 cells slots Q (F0 m (pc + 3) ls rest)) : W p l e R s m args below meth c H locs cells slots Q (F0 m pc ls (.int v :: .ref (a i) :: rest)) :=
  mg_put hx hb hts hin tyX4_ok nmX4 hown hK hw (by omega) (mE_p hi) kcX4 k (by omega) hlink (mTX4 (by omega)).1 (mTX4 (by omega)).2 (mTX4i hk) rfl rfl (by show k < 11; omega) _ (by rw [mE_p hi, mPv_set (by omega)]) hdg kk
theorem mp_z (hx : p.tables.exec = Jvm.exec) (hb : c.code = cc) {own : String} {index : Nat} {Ts : List Cond} (hts : ∀ w ∈ Ts, w.before args s = true) (hin : ∀ w ∈ wsX40, w ∈ Ts) (hown : s.vm.findClass own = some m.cls) (hK : va_K D vwCl (mT cs) s) (hw : mH D a cs N A H0 ρ xs H locs) {i : Nat} (hi : 2 ≤ i ∧ i < 10) (hN : 10 ≤ N) (k : Nat) {v : Int32} (hz : v = 0 ∨ v = 1) (hk : k = 8 ∨ k = 9) (hlink : (Cond.fieldLink own index "SaltRowModel$Pond" (TX4 k).2.1 (TX4 k).2.2.1).before args s = true) (hdg : decode cc pc = .ok (.putfield index, 3))
    (kk : ∀ (H1 : Heap) (locs1 : List Loc), mH D a cs N A H0 (va_up ρ i (upd (ρ i) k v)) xs H1 locs1 → W p l e R s m args below meth c H1 locs1 cells slots Q (F0 m (pc + 3) ls rest)) : W p l e R s m args below meth c H locs cells slots Q (F0 m pc ls (.int v :: .ref (a i) :: rest)) :=
  mg_put hx hb hts hin tyX4_ok nmX4 hown hK hw (by omega) (mE_p hi) kcX4 k (by omega) hlink (mTX4 (by omega)).1 (mTX4 (by omega)).2 (mTX4z hk) (by rcases hz with rfl | rfl <;> rfl) (by rcases hz with rfl | rfl <;> rfl) (by show k < 11; omega) _ (by rw [mE_p hi, mPv_set (by omega)]) hdg kk
theorem mp_r (hx : p.tables.exec = Jvm.exec) (hb : c.code = cc) {own : String} {index : Nat} {Ts : List Cond} (hts : ∀ w ∈ Ts, w.before args s = true) (hin : ∀ w ∈ wsX50, w ∈ Ts) (hown : s.vm.findClass own = some m.cls) (hK : va_K D vwCl (mT cs) s) (hw : mH D a cs N A H0 ρ xs H locs) (hN : 10 ≤ N) (k : Nat) {v : Int32} (hk : 1 ≤ k ∧ k < 3) (hlink : (Cond.fieldLink own index "SaltRowModel$Row" (TX5 k).2.1 (TX5 k).2.2.1).before args s = true) (hdg : decode cc pc = .ok (.putfield index, 3))
    (kk : ∀ (H1 : Heap) (locs1 : List Loc), mH D a cs N A H0 (va_up ρ 0 (upd (ρ 0) k v)) xs H1 locs1 → W p l e R s m args below meth c H1 locs1 cells slots Q (F0 m (pc + 3) ls rest)) : W p l e R s m args below meth c H locs cells slots Q (F0 m pc ls (.int v :: .ref (a 0) :: rest)) :=
  mg_put hx hb hts hin tyX5_ok nmX5 hown hK hw (by omega) mE_r kcX5 k (by omega) hlink (mTX5 hk).1 (mTX5 hk).2.1 (mTX5 hk).2.2 rfl rfl (by show k < 3; omega) _ (by rw [mE_r, mRv_set hk]) hdg kk
theorem mp_o (hx : p.tables.exec = Jvm.exec) (hb : c.code = cc) {own : String} {index : Nat} {Ts : List Cond} (hts : ∀ w ∈ Ts, w.before args s = true) (hin : ∀ w ∈ wsX60, w ∈ Ts) (hown : s.vm.findClass own = some m.cls) (hK : va_K D vwCl (mT cs) s) (hw : mH D a cs N A H0 ρ xs H locs) (hN : 12 ≤ N) (k : Nat) {v : Int32} (hk : k = 0 ∨ (3 ≤ k ∧ k < 11)) (hlink : (Cond.fieldLink own index "SaltRowModel" (TX6 k).2.1 (TX6 k).2.2.1).before args s = true) (hdg : decode cc pc = .ok (.putfield index, 3))
    (kk : ∀ (H1 : Heap) (locs1 : List Loc), mH D a cs N A H0 (va_up ρ 10 (upd (ρ 10) k v)) xs H1 locs1 → W p l e R s m args below meth c H1 locs1 cells slots Q (F0 m (pc + 3) ls rest)) : W p l e R s m args below meth c H locs cells slots Q (F0 m pc ls (.int v :: .ref (a 10) :: rest)) :=
  mg_put hx hb hts hin tyX6_ok nmX6 hown hK hw (by omega) mE_o kcX6 k (by omega) hlink (mTX6 hk).1 (mTX6 hk).2.1 (mTX6 hk).2.2 rfl rfl (by show k < 11; omega) _ (by rw [mE_o, mOv_set hk]) hdg kk
theorem mg_pf (hx : p.tables.exec = Jvm.exec) (hb : c.code = cc) {own : String} {index : Nat} {Ts : List Cond} (hts : ∀ w ∈ Ts, w.before args s = true) (hin : ∀ w ∈ wsX40, w ∈ Ts) (hown : s.vm.findClass own = some m.cls) (hK : va_K D vwCl (mT cs) s) {i : Nat} {f : Nat → Int32} (hw : mH D a cs N A H0 (va_up ρ i f) xs H locs) (hi : 2 ≤ i ∧ i < 10) (hN : 10 ≤ N) (k : Nat) (v : Int32) (hv : f k = v) (hk : k < 11) (hlink : (Cond.fieldLink own index "SaltRowModel$Pond" (TX4 k).2.1 (TX4 k).2.2.1).before args s = true) (hdg : decode cc pc = .ok (.getfield index, 3))
    (kk : W p l e R s m args below meth c H locs cells slots Q (F0 m (pc + 3) ls (.int v :: rest))) : W p l e R s m args below meth c H locs cells slots Q (F0 m pc ls (.ref (a i) :: rest)) :=
  mg_p hx hb hts hin hown hK hw hi hN k hk hlink hdg (by rw [va_up_self, hv]; exact kk)
theorem mg_pn (hx : p.tables.exec = Jvm.exec) (hb : c.code = cc) {own : String} {index : Nat} {Ts : List Cond} (hts : ∀ w ∈ Ts, w.before args s = true) (hin : ∀ w ∈ wsX40, w ∈ Ts) (hown : s.vm.findClass own = some m.cls) (hK : va_K D vwCl (mT cs) s) {i : Nat} {f : Nat → Int32} (hw : mH D a cs N A H0 (va_up ρ i f) xs H locs) {j : Nat} (hj : 2 ≤ j ∧ j < 10) (hN : 10 ≤ N) (hij : j ≠ i) (k : Nat) (hk : k < 11) (hlink : (Cond.fieldLink own index "SaltRowModel$Pond" (TX4 k).2.1 (TX4 k).2.2.1).before args s = true) (hdg : decode cc pc = .ok (.getfield index, 3))
    (kk : W p l e R s m args below meth c H locs cells slots Q (F0 m (pc + 3) ls (.int (ρ j k) :: rest))) : W p l e R s m args below meth c H locs cells slots Q (F0 m pc ls (.ref (a j) :: rest)) :=
  mg_p hx hb hts hin hown hK hw hj hN k hk hlink hdg (by rw [va_up_ne _ _ hij]; exact kk)
theorem mp_pf (hx : p.tables.exec = Jvm.exec) (hb : c.code = cc) {own : String} {index : Nat} {Ts : List Cond} (hts : ∀ w ∈ Ts, w.before args s = true) (hin : ∀ w ∈ wsX40, w ∈ Ts) (hown : s.vm.findClass own = some m.cls) (hK : va_K D vwCl (mT cs) s) {i : Nat} {f : Nat → Int32} (hw : mH D a cs N A H0 (va_up ρ i f) xs H locs) (hi : 2 ≤ i ∧ i < 10) (hN : 10 ≤ N) (k : Nat) {v : Int32} (hk : k < 8 ∨ k = 10) (hlink : (Cond.fieldLink own index "SaltRowModel$Pond" (TX4 k).2.1 (TX4 k).2.2.1).before args s = true) (hdg : decode cc pc = .ok (.putfield index, 3))
    (kk : ∀ (H1 : Heap) (locs1 : List Loc), mH D a cs N A H0 (va_up ρ i (upd f k v)) xs H1 locs1 → W p l e R s m args below meth c H1 locs1 cells slots Q (F0 m (pc + 3) ls rest)) : W p l e R s m args below meth c H locs cells slots Q (F0 m pc ls (.int v :: .ref (a i) :: rest)) :=
  mp_p hx hb hts hin hown hK hw hi hN k hk hlink hdg (fun H1 locs1 h => kk H1 locs1 (by rw [va_up_self, sup_up] at h; exact h))
-- arrays
theorem mg_q (hx : p.tables.exec = Jvm.exec) (hb : c.code = cc) (hK : va_K D vwCl (mT cs) s) (hw : mH D a cs N A H0 ρ xs H locs) (hN : 10 ≤ N) {k : Nat} {i : Int32} (hk : k < 8) (hi : i = nI k) (hdg : decode cc pc = .ok (.aaload, 1))
    (kk : W p l e R s m args below meth c H locs cells slots Q (F0 m (pc + 1) ls (.ref (a (2 + k)) :: rest))) : W p l e R s m args below meth c H locs cells slots Q (F0 m pc ls (.int i :: .ref (a 1) :: rest)) := by
  subst hi
  refine va_aldq hx hb hK hw.1 1 0 (by rw [mX_get (by omega), mE_q]; rfl) rfl (vp_in_nI hk (by omega)) hdg ?_
  rw [nI_clamp (by omega)]
  exact kk
theorem mg_qlen (hx : p.tables.exec = Jvm.exec) (hb : c.code = cc) (hK : va_K D vwCl (mT cs) s) (hw : mH D a cs N A H0 ρ xs H locs) (hN : 10 ≤ N) (hdg : decode cc pc = .ok (.arraylength, 1))
    (kk : W p l e R s m args below meth c H locs cells slots Q (F0 m (pc + 1) ls (.int 8 :: rest))) : W p l e R s m args below meth c H locs cells slots Q (F0 m pc ls (.ref (a 1) :: rest)) :=
  va_alen hx hb hK hw.1 1 0 (by rw [mX_get (by omega), mE_q]) rfl rfl hdg kk
theorem mx_ld (hx : p.tables.exec = Jvm.exec) (hb : c.code = cc) (hK : va_K D vwCl (mT cs) s) (hw : mH D a cs N A H0 ρ xs H locs) (j : Nat) {q n k : Nat} {f : Nat → Int32} {i : Int32} (hj : xs[j]? = some (q, .inl (cs 1, n, .inl f))) (hk : k < n) (hn : n < 2 ^ 31) (hi : i = nI k) (hdg : decode cc pc = .ok (.iaload, 1))
    (kk : W p l e R s m args below meth c H locs cells slots Q (F0 m (pc + 1) ls (.int (f k) :: rest))) : W p l e R s m args below meth c H locs cells slots Q (F0 m pc ls (.int i :: .ref q :: rest)) := by
  subst hi
  refine va_iald hx hb hK hw.1 (N + j) 1 (by rw [mX_x, hj]) rfl (vp_in_nI hk hn) hdg ?_
  rw [nI_clamp (by omega)]
  exact kk
theorem mx_st (hx : p.tables.exec = Jvm.exec) (hb : c.code = cc) (hK : va_K D vwCl (mT cs) s) (hw : mH D a cs N A H0 ρ xs H locs) (j : Nat) {q n k : Nat} {f : Nat → Int32} {i v : Int32} (hj : xs[j]? = some (q, .inl (cs 1, n, .inl f))) (hk : k < n) (hn : n < 2 ^ 31) (hi : i = nI k) (hdg : decode cc pc = .ok (.iastore, 1))
    (kk : ∀ (H1 : Heap) (locs1 : List Loc), mH D a cs N A H0 ρ (xs.set j (q, .inl (cs 1, n, .inl (upd f k v)))) H1 locs1 → W p l e R s m args below meth c H1 locs1 cells slots Q (F0 m (pc + 1) ls rest)) : W p l e R s m args below meth c H locs cells slots Q (F0 m pc ls (.int v :: .int i :: .ref q :: rest)) := by
  subst hi
  refine va_iast hx hb hK hw.1 hw.2.1 hw.2.2 (N + j) 1 (by rw [mX_x, hj]) rfl (vp_in_nI hk hn) hdg (fun H1 locs1 hP hD hS => ?_)
  rw [nI_clamp (by omega), mX_setx] at hP hD
  exact kk H1 locs1 ⟨hP, hD, hS⟩
theorem mx_new (hx : p.tables.exec = Jvm.exec) (hb : c.code = cc) (harr : (Cond.arrayClass .int).before args s = true) (hK : va_K D vwCl (mT cs) s) (hw : mH D a cs N A H0 ρ xs H locs) (hA : ∀ q, H0.size ≤ q → A q) {i : Int32} {n : Nat} (hn : n < 100) (hi : i = nI n) (hcells : cells + 1 ≤ R.cells) (hslots : slots + n ≤ R.slots) (hdg : decode cc pc = .ok (.newarray .int, 2))
    (kk : ∀ (q : Nat) (H1 : Heap), mH D a cs N A H0 ρ (xs ++ [(q, .inl (cs 1, n, .inl (fun _ => 0)))]) H1 locs → W p l e R s m args below meth c H1 locs (cells + 1) (slots + n) Q (F0 m (pc + 2) ls (.ref q :: rest))) : W p l e R s m args below meth c H locs cells slots Q (F0 m pc ls (.int i :: rest)) := by
  subst hi
  refine va_newa (atype := .int) (ty := .int) (N' := n) (a0 := (n, .inl (fun _ => 0))) hx hb harr rfl hK hw.1 hw.2.1 hw.2.2 hA (fun _ => rfl) (nI_pos (by omega)) (nI_clamp (by omega)) (by show n * 4 ≤ 536870912; omega) hcells hslots hdg (fun q cA H1 hK1 hP hD hS => ?_)
  have hcA : cA = cs 1 := va_K_one (i := 2) (j := 1) hK1 hK rfl rfl
  subst hcA
  rw [List.append_assoc] at hP hD
  exact kk q H1 ⟨hP, hD, hS⟩
theorem mr_V {own C : String} {y : MethodName} {bytes : ByteArray} {maxL nL n index mc ms : Nat} {ret : Option FieldType} {ws : List Cond} {rm : Room} {Qc : Array Value → State → Outcome → State → Prop} {free : Addr → Prop} {Ts : List Cond} {As : List Value} {i ci Nf : Nat} {T : u_T} {fs : List Value}
    (S : CallFix p m c cc nL s args Ts own) (hM : Met l y ws rm (va_Pc (.ref (a i) :: As) (mB D a cs N ρ H.size)) Qc mc ms free) (cw : CallW R s args own C index y bytes maxL ret ws rm mc ms n) (hK : va_K D vwCl (mT cs) s) (hN : mN s) (hw : mH D a cs N A H0 ρ xs H locs) (hi : i < N) (he : mE a cs i (ρ i) = .inr (ci, fs)) (hc : vwCl[ci]? = some (C, T, Nf)) (hn : As.length = n) (hsize : ls.size = nL) (hW : (rest.map fun v => v.category).sum ≤ 8) (hdg : decode cc pc = .ok (.invokevirtual index, 3)) (hf : cells + mc ≤ R.cells ∧ slots + ms ≤ R.slots) :
    va_Run p l e R s m args below meth c H locs cells slots mc ms (F0 m pc ls (As.reverse ++ .ref (a i) :: rest)) rest (Qc (Value.ref (a i) :: As).toArray) free :=
  va_runV S hM cw ⟨mB_blind, va_recv hK hw.1 hc (by rw [mX_get hi, he]), fun U hU hW => ⟨rfl, mB_of hK hN hw hU hW⟩⟩ rfl hn hsize rfl (lv_room hW) hdg hf
theorem mr_S {own : String} {y : MethodName} {bytes : ByteArray} {maxL nL n index mc ms : Nat} {ret : Option FieldType} {ws : List Cond} {rm : Room} {Qc : Array Value → State → Outcome → State → Prop} {free : Addr → Prop} {Ts : List Cond} {As : List Value}
    (S : CallFix p m c cc nL s args Ts own) (hM : Met l y ws rm (va_Pc As (mB D a cs N ρ H.size)) Qc mc ms free) (cw : CallB R s args own index y bytes maxL ret ws rm mc ms n ∧ (Cond.static y).before args s = true) (hK : va_K D vwCl (mT cs) s) (hN : mN s) (hw : mH D a cs N A H0 ρ xs H locs) (hn : As.length = n) (hsize : ls.size = nL) (hW : (rest.map fun v => v.category).sum ≤ 8) (hdg : decode cc pc = .ok (.invokestatic index, 3)) (hf : cells + mc ≤ R.cells ∧ slots + ms ≤ R.slots) :
    va_Run p l e R s m args below meth c H locs cells slots mc ms (F0 m pc ls (As.reverse ++ rest)) rest (Qc As.toArray) free :=
  va_runS S hM cw ⟨mB_blind, fun U hU hW => ⟨rfl, mB_of hK hN hw hU hW⟩⟩ rfl hn hsize rfl (lv_room hW) hdg hf
theorem mr_N {own host : String} {y : MethodName} {bytes : ByteArray} {maxL nL n index mc ms : Nat} {ret : Option FieldType} {ws : List Cond} {rm : Room} {Qc : Array Value → State → Outcome → State → Prop} {free : Addr → Prop} {Ts : List Cond} {As : List Value}
    (S : CallFix p m c cc nL s args Ts own) (hM : Met l y ws rm (va_Pc As (mB D a cs N ρ H.size)) Qc mc ms free) (cw : va_CN R s args own index y host bytes maxL ret ws rm mc ms n) (hst : (Cond.static y).before args s = true) (hK : va_K D vwCl (mT cs) s) (hN : mN s) (hw : mH D a cs N A H0 ρ xs H locs) (hn : As.length = n) (hsize : ls.size = nL) (hW : (rest.map fun v => v.category).sum ≤ 8) (hdg : decode cc pc = .ok (.invokestatic index, 3)) (hf : cells + mc ≤ R.cells ∧ slots + ms ≤ R.slots) :
    va_Run p l e R s m args below meth c H locs cells slots mc ms (F0 m pc ls (As.reverse ++ rest)) rest (Qc As.toArray) free :=
  va_runSN S hM ⟨cw, hst, trivial⟩ ⟨mB_blind, fun U hU hW => ⟨rfl, mB_of hK hN hw hU hW⟩⟩ rfl hn hsize rfl (lv_room hW) hdg hf
theorem mc_i {st0 : List Value} {av : Array Value} {mc ms : Nat} {v : Int32} (hr : va_Run p l e R s m args below meth c H locs cells slots mc ms (F0 m pc ls st0) rest (va_Qi (fun r (_ : Unit) => r = v) (fun _ t => va_P D vwCl (mW N a cs ρ') t.heap) (mA a N H.size) av) (mA a N H.size)) (hw : mH D a cs N A H0 ρ xs H locs) (hA : ∀ q, H0.size ≤ q → A q)
    (kk : ∀ (H1 : Heap) (locs1 : List Loc), mH D a cs N A H0 ρ' xs H1 locs1 → W p l e R s m args below meth c H1 locs1 (cells + mc) (slots + ms) Q (F0 m (pc + 3) ls (.int v :: rest))) : W p l e R s m args below meth c H locs cells slots Q (F0 m pc ls st0) :=
  va_calli hr hw.2.2 (fun q _ h => mA_sub hw hA h) (fun q h => mA_sub hw hA h) (fun r u t H1 locs1 ht _ hr hB _ hk hS => by subst hr; rw [ht] at hB; exact kk H1 locs1 (mH_call hw hB hk hS))
theorem mc_l {st0 : List Value} {av : Array Value} {mc ms : Nat} {v : Int64} (hr : va_Run p l e R s m args below meth c H locs cells slots mc ms (F0 m pc ls st0) rest (va_Ql (fun r (_ : Unit) => r = v) (fun _ t => va_P D vwCl (mW N a cs ρ') t.heap) (mA a N H.size) av) (mA a N H.size)) (hw : mH D a cs N A H0 ρ xs H locs) (hA : ∀ q, H0.size ≤ q → A q)
    (kk : ∀ (H1 : Heap) (locs1 : List Loc), mH D a cs N A H0 ρ' xs H1 locs1 → W p l e R s m args below meth c H1 locs1 (cells + mc) (slots + ms) Q (F0 m (pc + 3) ls (.long v :: rest))) : W p l e R s m args below meth c H locs cells slots Q (F0 m pc ls st0) :=
  va_calll hr hw.2.2 (fun q _ h => mA_sub hw hA h) (fun q h => mA_sub hw hA h) (fun r u t H1 locs1 ht _ hr hB _ hk hS => by subst hr; rw [ht] at hB; exact kk H1 locs1 (mH_call hw hB hk hS))
theorem mc_v {st0 : List Value} {av : Array Value} {mc ms : Nat} (hr : va_Run p l e R s m args below meth c H locs cells slots mc ms (F0 m pc ls st0) rest (va_Qv (fun (_ : Unit) => True) (fun _ t => va_P D vwCl (mW N a cs ρ') t.heap) (mA a N H.size) av) (mA a N H.size)) (hw : mH D a cs N A H0 ρ xs H locs) (hA : ∀ q, H0.size ≤ q → A q)
    (kk : ∀ (H1 : Heap) (locs1 : List Loc), mH D a cs N A H0 ρ' xs H1 locs1 → W p l e R s m args below meth c H1 locs1 (cells + mc) (slots + ms) Q (F0 m (pc + 3) ls (rest))) : W p l e R s m args below meth c H locs cells slots Q (F0 m pc ls st0) :=
  va_callv hr hw.2.2 (fun q _ h => mA_sub hw hA h) (fun q h => mA_sub hw hA h) (fun u t H1 locs1 ht _ _ hB _ hk hS => by rw [ht] at hB; exact kk H1 locs1 (mH_call hw hB hk hS))
theorem mc_r {st0 : List Value} {av : Array Value} {mc ms n : Nat} {v : Nat → Int32} (hr : va_Run p l e R s m args below meth c H locs cells slots mc ms (F0 m pc ls st0) rest (va_Qr (fun (_ : Unit) => True) (fun _ q t => va_P D vwCl (mW N a cs ρ' ++ [(q, .inl (cs 1, n, .inl v))]) t.heap ∧ va_D (mA a N H.size) (mW N a cs ρ' ++ [(q, .inl (cs 1, n, .inl v))])) (mA a N H.size) av) (mA a N H.size)) (hw : mH D a cs N A H0 ρ xs H locs) (hA : ∀ q, H0.size ≤ q → A q)
    (kk : ∀ (q : Nat) (H1 : Heap) (locs1 : List Loc), mH D a cs N A H0 ρ' (xs ++ [(q, .inl (cs 1, n, .inl v))]) H1 locs1 → W p l e R s m args below meth c H1 locs1 (cells + mc) (slots + ms) Q (F0 m (pc + 3) ls (.ref q :: rest))) : W p l e R s m args below meth c H locs cells slots Q (F0 m pc ls st0) :=
  va_callr hr hw.2.2 (fun q _ h => mA_sub hw hA h) (fun q h => mA_sub hw hA h) (fun u q t H1 locs1 ht _ _ hB _ hk hS => by
    rw [ht] at hB
    have h1 := mH_call hw (mP_pre hB.1) hk hS
    have hq : H.size ≤ q := by
      have h2 := hB.2.2 (N + 0) (q, .inl (cs 1, n, .inl v)) (by rw [mX_x]; rfl)
      rcases h2 with ⟨i, hi, e⟩ | h2
      · have h3 := hB.2.1 i (N + 0) _ _ (mX_get hi) (by rw [mX_x]; rfl) e.symm
        omega
      · exact h2
    refine kk q H1 locs1 ⟨?_, ?_, hS⟩
    · rw [← List.append_assoc]
      exact h1.1.app (mP_suf hB.1)
    · rw [← List.append_assoc]
      refine h1.2.1.app ⟨fun i j p1 p2 hi hj _ => ?_, fun k p1 hk1 => ?_⟩ (fun i j p1 p2 hi hj e => ?_)
      · have := (List.getElem?_eq_some_iff.mp hi).1
        have := (List.getElem?_eq_some_iff.mp hj).1
        simp only [List.length_singleton] at *
        omega
      · have hk0 : k < 1 := (List.getElem?_eq_some_iff.mp hk1).1
        rw [show k = 0 by omega] at hk1
        cases hk1
        exact hA q (Nat.le_trans hw.2.2.1 hq)
      · have hj0 : j < 1 := (List.getElem?_eq_some_iff.mp hj).1
        rw [show j = 0 by omega] at hj
        cases hj
        have h4 : p1.1 < H.size := by
          by_cases hN : i < N
          · rw [mX_get hN] at hi
            cases hi
            exact (hw.1 i _ (mX_get hN)).lt
          · have h5 : xs[i - N]? = some p1 := by
              rw [← mX_x (N := N) (a := a) (cs := cs) (ρ := ρ'), show N + (i - N) = i by omega]
              exact hi
            exact (mP_suf hw.1 _ _ h5).lt
        exact absurd (show p1.1 = q from e) (by omega))
/-- roads that meet again -/
theorem w_merge {g : JFrame} (pc' : Nat) (P : Heap → List Loc → Array Slot → Prop) (km : ∀ (H1 : Heap) (locs1 : List Loc) (ls1 : Array Slot), P H1 locs1 ls1 → W p l e R s m args below meth c H1 locs1 cells slots Q (F0 m pc' ls1 [])) (kk : (∀ (H1 : Heap) (locs1 : List Loc) (ls1 : Array Slot), P H1 locs1 ls1 → W p l e R s m args below meth c H1 locs1 cells slots Q (F0 m pc' ls1 [])) → W p l e R s m args below meth c H locs cells slots Q g) : W p l e R s m args below meth c H locs cells slots Q g := kk km
theorem me_i (hx : p.tables.exec = Jvm.exec) (hb : c.code = cc) (hr : meth.sig.returnType = some .int) (hlocks : meth.locks = false) (hw : mH D a cs N (mA a N s.heap.size) s.heap ρ xs H locs) {v v' : Int32} (hv : v = v') (hσ : ρ = ρ') (hdg : decode cc pc = .ok (.ireturn, 1)) : W p l e R s m args below meth c H locs cells slots (MQ below (va_Qi (fun r (_ : Unit) => r = v') (fun _ t => va_P D vwCl (mW N a cs ρ') t.heap) (mA a N s.heap.size)) args s cells slots (mA a N s.heap.size)) (F0 m pc ls [.int v]) := by
  subst hv; subst hσ
  exact W.iret hx hb hr (fun t ht hW => ⟨⟨v, (), rfl, rfl, by show va_P D vwCl (mW N a cs ρ) t.heap; rw [ht]; exact mP_pre hw.1⟩, hw.2.2.F ht⟩) hw.2.2.2.2 hdg hlocks
theorem me_z (hx : p.tables.exec = Jvm.exec) (hb : c.code = cc) (hr : meth.sig.returnType = some .boolean) (hlocks : meth.locks = false) (hw : mH D a cs N (mA a N s.heap.size) s.heap ρ xs H locs) {v v' : Int32} (hz : v = 0 ∨ v = 1) (hv : v = v') (hσ : ρ = ρ') (hdg : decode cc pc = .ok (.ireturn, 1)) : W p l e R s m args below meth c H locs cells slots (MQ below (va_Qi (fun r (_ : Unit) => r = v') (fun _ t => va_P D vwCl (mW N a cs ρ') t.heap) (mA a N s.heap.size)) args s cells slots (mA a N s.heap.size)) (F0 m pc ls [.int v]) := by
  subst hv; subst hσ
  exact W.zret hx hb hr (by rcases hz with rfl | rfl <;> rfl) (fun t ht hW => ⟨⟨v, (), rfl, rfl, by show va_P D vwCl (mW N a cs ρ) t.heap; rw [ht]; exact mP_pre hw.1⟩, hw.2.2.F ht⟩) hw.2.2.2.2 hdg hlocks
theorem me_l (hx : p.tables.exec = Jvm.exec) (hb : c.code = cc) (hr : meth.sig.returnType = some .long) (hlocks : meth.locks = false) (hw : mH D a cs N (mA a N s.heap.size) s.heap ρ xs H locs) {v v' : Int64} (hv : v = v') (hσ : ρ = ρ') (hdg : decode cc pc = .ok (.lreturn, 1)) : W p l e R s m args below meth c H locs cells slots (MQ below (va_Ql (fun r (_ : Unit) => r = v') (fun _ t => va_P D vwCl (mW N a cs ρ') t.heap) (mA a N s.heap.size)) args s cells slots (mA a N s.heap.size)) (F0 m pc ls [.long v]) := by
  subst hv; subst hσ
  exact W.lret hx hb hr (fun t ht hW => ⟨⟨v, (), rfl, rfl, by show va_P D vwCl (mW N a cs ρ) t.heap; rw [ht]; exact mP_pre hw.1⟩, hw.2.2.F ht⟩) hw.2.2.2.2 hdg hlocks
theorem me_r (hx : p.tables.exec = Jvm.exec) (hb : c.code = cc) (hr : meth.sig.returnType = some (.array .int)) (hlocks : meth.locks = false) {q n : Nat} {v : Nat → Int32} (hw : mH D a cs N (mA a N s.heap.size) s.heap ρ [(q, .inl (cs 1, n, .inl v))] H locs) (hdg : decode cc pc = .ok (.areturn, 1)) : W p l e R s m args below meth c H locs cells slots (MQ below (va_Qr (fun (_ : Unit) => True) (fun _ q t => va_P D vwCl (mW N a cs ρ ++ [(q, .inl (cs 1, n, .inl v))]) t.heap ∧ va_D (mA a N s.heap.size) (mW N a cs ρ ++ [(q, .inl (cs 1, n, .inl v))])) (mA a N s.heap.size)) args s cells slots (mA a N s.heap.size)) (F0 m pc ls [.ref q]) := by
  exact W.aret hx hb hr (Or.inr ⟨_, rfl⟩) (Or.inr ⟨_, rfl⟩) (fun t ht hW => ⟨⟨(), q, rfl, trivial, by subst ht; exact ⟨hw.1, hw.2.1⟩⟩, hw.2.2.F ht⟩) hw.2.2.2.2 hdg hlocks
theorem me_v (hx : p.tables.exec = Jvm.exec) (hb : c.code = cc) (hr : meth.sig.returnType = none) (hlocks : meth.locks = false) (hw : mH D a cs N (mA a N s.heap.size) s.heap ρ xs H locs) (hσ : ρ = ρ') (hdg : decode cc pc = .ok (.return_, 1)) : W p l e R s m args below meth c H locs cells slots (MQ below (va_Qv (fun (_ : Unit) => True) (fun _ t => va_P D vwCl (mW N a cs ρ') t.heap) (mA a N s.heap.size)) args s cells slots (mA a N s.heap.size)) (F0 m pc ls []) := by
  subst hσ
  exact W.vret hx hb hr (fun t ht hW => ⟨⟨(), rfl, trivial, by show va_P D vwCl (mW N a cs ρ) t.heap; rw [ht]; exact mP_pre hw.1⟩, hw.2.2.F ht⟩) hw.2.2.2.2 hdg hlocks
end MW
