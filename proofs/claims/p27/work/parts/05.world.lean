/-! THE CLASS'S WORLD: 34 cells, their numbers a flat function (cell, slot): 0 the object, 1 and 2 its rows (row r is cell 1 + r), 3 and 4 their arrays of ponds, 5 + 8 r + k the pond k of row r, 21 the array of families, 22 + j the family j, 28 + j its rights. -/
abbrev sS : Type := Nat → Nat → Int32
def sPv (f : Nat → Int32) : List Value := [.int (f 0), .int (f 1), .int (f 2), .int (f 3), .int (f 4), .int (f 5), .int (f 6), .int (f 7), .int (f 8), .int (f 9), .int (f 10), .int (f 11)]
def sRv (q : Nat) (f : Nat → Int32) : List Value := [.ref q, .int (f 1), .int (f 2), .int (f 3), .int (f 4)]
def sFv (q : Nat) (f : Nat → Int32) : List Value := [.ref q, .int (f 1), .int (f 2), .int (f 3), .int (f 4), .int (f 5)]
def sOv (q0 q1 q2 : Nat) (f : Nat → Int32) : List Value := [.ref q0, .ref q1, .ref q2, .int (f 3), .int (f 4), .int (f 5), .int (f 6), .int (f 7), .int (f 8), .int (f 9)]
def sQs (g : Nat → Nat) (n : Nat) : vp_A := (n, .inr (.inr (.inr (.inr (fun k => some (g k))))))
def sE (a : Nat → Nat) (cs : Nat → ClassId) (i : Nat) (f : Nat → Int32) : va_E :=
  if i = 0 then .inr (kX3, sOv (a 1) (a 2) (a 21) f)
  else if i < 3 then .inr (kX2, sRv (a (i + 2)) f)
  else if i < 5 then .inl (cs 0, sQs (fun k => a (5 + 8 * (i - 3) + k)) 8)
  else if i < 21 then .inr (kX1, sPv f)
  else if i = 21 then .inl (cs 1, sQs (fun k => a (22 + k)) 6)
  else if i < 28 then .inr (kX0, sFv (a (i + 6)) f)
  else .inl (cs 2, 3, .inl f)
def sW (a : Nat → Nat) (cs : Nat → ClassId) (σ : sS) : va_W := (List.range 34).map (fun i => (a i, sE a cs i (σ i)))
abbrev sT (cs : Nat → ClassId) : List (ClassId × FieldType) := [(cs 0, .object "SaltRow$Pond"), (cs 1, .object "SaltRow$Family"), (cs 2, .int)]
def sA (a : Nat → Nat) (sz : Nat) : Nat → Prop := fun q => (∃ i, i < 34 ∧ q = a i) ∨ sz ≤ q
theorem sE_o {a : Nat → Nat} {cs : Nat → ClassId} {f : Nat → Int32} : sE a cs 0 f = .inr (kX3, sOv (a 1) (a 2) (a 21) f) := rfl
theorem sE_r {a : Nat → Nat} {cs : Nat → ClassId} {f : Nat → Int32} {r : Nat} (h : r < 2) : sE a cs (1 + r) f = .inr (kX2, sRv (a (3 + r)) f) := by
  rcases (show r = 0 ∨ r = 1 by omega) with rfl | rfl <;> rfl
theorem sE_q {a : Nat → Nat} {cs : Nat → ClassId} {f : Nat → Int32} {r : Nat} (h : r < 2) : sE a cs (3 + r) f = .inl (cs 0, sQs (fun k => a (5 + 8 * r + k)) 8) := by
  rcases (show r = 0 ∨ r = 1 by omega) with rfl | rfl <;> rfl
theorem sE_p {a : Nat → Nat} {cs : Nat → ClassId} {f : Nat → Int32} {i : Nat} (h : 5 ≤ i ∧ i < 21) : sE a cs i f = .inr (kX1, sPv f) := by
  unfold sE
  rw [if_neg (by omega), if_neg (by omega), if_neg (by omega), if_pos h.2]
theorem sE_g {a : Nat → Nat} {cs : Nat → ClassId} {f : Nat → Int32} : sE a cs 21 f = .inl (cs 1, sQs (fun k => a (22 + k)) 6) := rfl
theorem sE_f {a : Nat → Nat} {cs : Nat → ClassId} {f : Nat → Int32} {j : Nat} (h : j < 6) : sE a cs (22 + j) f = .inr (kX0, sFv (a (28 + j)) f) := by
  unfold sE
  rw [if_neg (by omega), if_neg (by omega), if_neg (by omega), if_neg (by omega), if_neg (by omega), if_pos (by omega), show 22 + j + 6 = 28 + j by omega]
theorem sE_h {a : Nat → Nat} {cs : Nat → ClassId} {f : Nat → Int32} {j : Nat} (h : j < 6) : sE a cs (28 + j) f = .inl (cs 2, 3, .inl f) := by
  unfold sE
  rw [if_neg (by omega), if_neg (by omega), if_neg (by omega), if_neg (by omega), if_neg (by omega), if_neg (by omega)]
theorem sW_len {a : Nat → Nat} {cs : Nat → ClassId} {σ : sS} : (sW a cs σ).length = 34 := by simp [sW]
theorem sW_get {a : Nat → Nat} {cs : Nat → ClassId} {σ : sS} {i : Nat} (h : i < 34) : (sW a cs σ)[i]? = some (a i, sE a cs i (σ i)) := by
  simp [sW, List.getElem?_map, List.getElem?_range h]
theorem sW_inv {a : Nat → Nat} {cs : Nat → ClassId} {σ : sS} {i : Nat} {q : Nat × va_E} (h : (sW a cs σ)[i]? = some q) : i < 34 ∧ q = (a i, sE a cs i (σ i)) := by
  have hi : i < 34 := by have := (List.getElem?_eq_some_iff.mp h).1; rw [sW_len] at this; exact this
  rw [sW_get hi] at h
  exact ⟨hi, (Option.some.inj h).symm⟩
theorem sW_set {a : Nat → Nat} {cs : Nat → ClassId} {σ : sS} {i : Nat} (h : i < 34) (f : Nat → Int32) : (sW a cs σ).set i (a i, sE a cs i f) = sW a cs (va_up σ i f) := by
  apply List.ext_getElem?
  intro j
  by_cases hj : j = i
  · subst hj
    rw [List.getElem?_set_self (by rw [sW_len]; exact h), sW_get h, va_up_self]
  · rw [List.getElem?_set_ne (Ne.symm hj)]
    by_cases hl : j < 34
    · rw [sW_get hl, sW_get hl, va_up_ne _ _ hj]
    · rw [List.getElem?_eq_none (by rw [sW_len]; omega), List.getElem?_eq_none (by rw [sW_len]; omega)]
theorem sA_eq {a : Nat → Nat} {cs : Nat → ClassId} {σ : sS} {sz : Nat} {q : Nat} (h : va_A (sW a cs σ) sz q) : sA a sz q := by
  rcases h with ⟨k, e, h⟩ | h
  · obtain ⟨hi, he⟩ := sW_inv h
    exact Or.inl ⟨k, hi, congrArg Prod.fst he⟩
  · exact Or.inr h
theorem sD_to {a : Nat → Nat} {cs : Nat → ClassId} {σ σ' : sS} {A : Nat → Prop} (h : va_D A (sW a cs σ)) : va_D A (sW a cs σ') := by
  refine ⟨fun i j p q hp hq e => ?_, fun k q hk => ?_⟩
  · obtain ⟨hi, rfl⟩ := sW_inv hp
    obtain ⟨hj, rfl⟩ := sW_inv hq
    exact h.1 i j _ _ (sW_get hi) (sW_get hj) e
  · obtain ⟨hi, rfl⟩ := sW_inv hk
    exact h.2 k (a k, sE a cs k (σ k)) (sW_get hi)
theorem sD_self {a : Nat → Nat} {cs : Nat → ClassId} {σ : sS} {A : Nat → Prop} {sz : Nat} (h : va_D A (sW a cs σ)) : va_D (sA a sz) (sW a cs σ) := by
  refine ⟨h.1, fun k q hk => ?_⟩
  obtain ⟨hi, rfl⟩ := sW_inv hk
  exact Or.inl ⟨k, hi, rfl⟩
/-- the world at a point of a method: what the heap holds, that the cells are apart, that nothing else changed -/
def sH (D : va_G) (a : Nat → Nat) (cs : Nat → ClassId) (A : Nat → Prop) (H0 : Heap) (σ : sS) (H : Heap) (locs : List Loc) : Prop := va_P D vwCl (sW a cs σ) H ∧ va_D A (sW a cs σ) ∧ va_S A H0 H locs
/-- a method's start -/
def sB (D : va_G) (a : Nat → Nat) (cs : Nat → ClassId) (σ : sS) (sz : Nat) (U : State) : Prop := U.heap.size = sz ∧ va_P D vwCl (sW a cs σ) U.heap ∧ va_K D vwCl (sT cs) U ∧ va_D (fun _ => True) (sW a cs σ) ∧ sN U
theorem sB_blind {D : va_G} {a : Nat → Nat} {cs : Nat → ClassId} {σ : sS} {sz : Nat} {av : List Value} : FrameBlind (va_Pc av (sB D a cs σ sz)) := fun v U g mk q => by
  obtain ⟨q0, q1, qP, qK, qD, qN⟩ := q
  exact ⟨q0, q1, qP, va_K.moved (u := U) (U := U.calling g mk v) (Vm.Alike.refl U.vm) qK, qD, sN_same (u := U) (U := U.calling g mk v) rfl qN⟩
theorem sB_of {D : va_G} {a : Nat → Nat} {cs : Nat → ClassId} {σ : sS} {A : Nat → Prop} {H0 H : Heap} {locs : List Loc} {s U : State} (hK : va_K D vwCl (sT cs) s) (hN : sN s) (hw : sH D a cs A H0 σ H locs) (hU : U.heap = H) (hW : s.WarmedH U.vm) : sB D a cs σ H.size U := ⟨by rw [hU], by rw [hU]; exact hw.1, va_K.moved hW.alike hK, hw.2.1.weaken (fun _ _ _ _ => trivial), sN_warm hW hN⟩
/-- behind a call -/
theorem sH_call {D : va_G} {a : Nat → Nat} {cs : Nat → ClassId} {σ σ' : sS} {A : Nat → Prop} {H0 H H1 : Heap} {locs locs1 : List Loc} (hw : sH D a cs A H0 σ H locs) (hP : va_P D vwCl (sW a cs σ') H1) (hS : va_S A H0 H1 locs1) : sH D a cs A H0 σ' H1 locs1 := ⟨hP, sD_to hw.2.1, hS⟩
theorem sA_sub {D : va_G} {a : Nat → Nat} {cs : Nat → ClassId} {σ : sS} {A : Nat → Prop} {H0 H : Heap} {locs : List Loc} (hw : sH D a cs A H0 σ H locs) (hA : ∀ q, H0.size ≤ q → A q) {q : Nat} (h : sA a H.size q) : A q := by
  rcases h with ⟨i, hi, rfl⟩ | h
  · exact hw.2.1.2 i _ (sW_get hi)
  · exact hA q (Nat.le_trans hw.2.2.1 h)
theorem sH_start {D : va_G} {a : Nat → Nat} {cs : Nat → ClassId} {σ : sS} {U : State} (h : sB D a cs σ U.heap.size U) : sH D a cs (sA a U.heap.size) U.heap σ U.heap [] := ⟨h.2.1, sD_self h.2.2.2.1, va_S.rf⟩
theorem sA_new {a : Nat → Nat} {sz : Nat} : ∀ q : Nat, sz ≤ q → sA a sz q := fun _ h => Or.inr h
/-- contracts over the world: answers an int, a long, nothing -/
def sMi (l : Launch) (y : MethodName) (ws : List Cond) (rm : Room) (D : va_G) (a : Nat → Nat) (cs : Nat → ClassId) (av : List Value) (σ : sS) (v : Int32) (σ' : sS) : Prop := ∀ sz : Nat, Met l y ws rm (va_Pc av (sB D a cs σ sz)) (va_Qi (fun r (_ : Unit) => r = v) (fun _ t => va_P D vwCl (sW a cs σ') t.heap) (sA a sz)) 0 0 (sA a sz)
def sMl (l : Launch) (y : MethodName) (ws : List Cond) (rm : Room) (D : va_G) (a : Nat → Nat) (cs : Nat → ClassId) (av : List Value) (σ : sS) (v : Int64) (σ' : sS) : Prop := ∀ sz : Nat, Met l y ws rm (va_Pc av (sB D a cs σ sz)) (va_Ql (fun r (_ : Unit) => r = v) (fun _ t => va_P D vwCl (sW a cs σ') t.heap) (sA a sz)) 0 0 (sA a sz)
def sMv (l : Launch) (y : MethodName) (ws : List Cond) (rm : Room) (D : va_G) (a : Nat → Nat) (cs : Nat → ClassId) (av : List Value) (σ : sS) (σ' : sS) : Prop := ∀ sz : Nat, Met l y ws rm (va_Pc av (sB D a cs σ sz)) (va_Qv (fun (_ : Unit) => True) (fun _ t => va_P D vwCl (sW a cs σ') t.heap) (sA a sz)) 0 0 (sA a sz)
theorem sPv_get {f : Nat → Int32} {k : Nat} (h : k < 12) : (sPv f)[k]? = some (.int (f k)) := by
  rcases (show k = 0 ∨ k = 1 ∨ k = 2 ∨ k = 3 ∨ k = 4 ∨ k = 5 ∨ k = 6 ∨ k = 7 ∨ k = 8 ∨ k = 9 ∨ k = 10 ∨ k = 11 by omega) with rfl | rfl | rfl | rfl | rfl | rfl | rfl | rfl | rfl | rfl | rfl | rfl <;> rfl
theorem sPv_set {f : Nat → Int32} {k : Nat} (h : k < 12) (v : Int32) : (sPv f).set k (.int v) = sPv (upd f k v) := by
  rcases (show k = 0 ∨ k = 1 ∨ k = 2 ∨ k = 3 ∨ k = 4 ∨ k = 5 ∨ k = 6 ∨ k = 7 ∨ k = 8 ∨ k = 9 ∨ k = 10 ∨ k = 11 by omega) with rfl | rfl | rfl | rfl | rfl | rfl | rfl | rfl | rfl | rfl | rfl | rfl <;> rfl
theorem sRv_get {q : Nat} {f : Nat → Int32} {k : Nat} (h : 1 ≤ k ∧ k < 5) : (sRv q f)[k]? = some (.int (f k)) := by
  rcases (show k = 1 ∨ k = 2 ∨ k = 3 ∨ k = 4 by omega) with rfl | rfl | rfl | rfl <;> rfl
theorem sRv_set {q : Nat} {f : Nat → Int32} {k : Nat} (h : 1 ≤ k ∧ k < 5) (v : Int32) : (sRv q f).set k (.int v) = sRv q (upd f k v) := by
  rcases (show k = 1 ∨ k = 2 ∨ k = 3 ∨ k = 4 by omega) with rfl | rfl | rfl | rfl <;> rfl
theorem sFv_get {q : Nat} {f : Nat → Int32} {k : Nat} (h : 1 ≤ k ∧ k < 6) : (sFv q f)[k]? = some (.int (f k)) := by
  rcases (show k = 1 ∨ k = 2 ∨ k = 3 ∨ k = 4 ∨ k = 5 by omega) with rfl | rfl | rfl | rfl | rfl <;> rfl
theorem sFv_set {q : Nat} {f : Nat → Int32} {k : Nat} (h : 1 ≤ k ∧ k < 6) (v : Int32) : (sFv q f).set k (.int v) = sFv q (upd f k v) := by
  rcases (show k = 1 ∨ k = 2 ∨ k = 3 ∨ k = 4 ∨ k = 5 by omega) with rfl | rfl | rfl | rfl | rfl <;> rfl
theorem sOv_get {x y z : Nat} {f : Nat → Int32} {k : Nat} (h : 3 ≤ k ∧ k < 10) : (sOv x y z f)[k]? = some (.int (f k)) := by
  rcases (show k = 3 ∨ k = 4 ∨ k = 5 ∨ k = 6 ∨ k = 7 ∨ k = 8 ∨ k = 9 by omega) with rfl | rfl | rfl | rfl | rfl | rfl | rfl <;> rfl
theorem sOv_set {x y z : Nat} {f : Nat → Int32} {k : Nat} (h : 3 ≤ k ∧ k < 10) (v : Int32) : (sOv x y z f).set k (.int v) = sOv x y z (upd f k v) := by
  rcases (show k = 3 ∨ k = 4 ∨ k = 5 ∨ k = 6 ∨ k = 7 ∨ k = 8 ∨ k = 9 by omega) with rfl | rfl | rfl | rfl | rfl | rfl | rfl <;> rfl
theorem sTX1 {k : Nat} (h : k < 12) : (TX1 k).1 = "SaltRow$Pond" ∧ (TX1 k).2.2.2 = false := by
  rcases (show k = 0 ∨ k = 1 ∨ k = 2 ∨ k = 3 ∨ k = 4 ∨ k = 5 ∨ k = 6 ∨ k = 7 ∨ k = 8 ∨ k = 9 ∨ k = 10 ∨ k = 11 by omega) with rfl | rfl | rfl | rfl | rfl | rfl | rfl | rfl | rfl | rfl | rfl | rfl <;> exact ⟨rfl, rfl⟩
theorem sTX1i {k : Nat} (h : k < 9) : parseFieldDescriptor (TX1 k).2.2.1 = some .int := by
  rw [tyX1_ok k (by omega)]
  rcases (show k = 0 ∨ k = 1 ∨ k = 2 ∨ k = 3 ∨ k = 4 ∨ k = 5 ∨ k = 6 ∨ k = 7 ∨ k = 8 by omega) with rfl | rfl | rfl | rfl | rfl | rfl | rfl | rfl | rfl <;> rfl
theorem sTX1z {k : Nat} (h : 9 ≤ k ∧ k < 12) : parseFieldDescriptor (TX1 k).2.2.1 = some .boolean := by
  rw [tyX1_ok k (by omega)]
  rcases (show k = 9 ∨ k = 10 ∨ k = 11 by omega) with rfl | rfl | rfl <;> rfl
theorem sTX2 {k : Nat} (h : 1 ≤ k ∧ k < 5) : (TX2 k).1 = "SaltRow$Row" ∧ (TX2 k).2.2.2 = false ∧ parseFieldDescriptor (TX2 k).2.2.1 = some .int := by
  rw [tyX2_ok k (by omega)]
  rcases (show k = 1 ∨ k = 2 ∨ k = 3 ∨ k = 4 by omega) with rfl | rfl | rfl | rfl <;> exact ⟨rfl, rfl, rfl⟩
theorem sTX0 {k : Nat} (h : 1 ≤ k ∧ k < 6) : (TX0 k).1 = "SaltRow$Family" ∧ (TX0 k).2.2.2 = false ∧ parseFieldDescriptor (TX0 k).2.2.1 = some .int := by
  rw [tyX0_ok k (by omega)]
  rcases (show k = 1 ∨ k = 2 ∨ k = 3 ∨ k = 4 ∨ k = 5 by omega) with rfl | rfl | rfl | rfl | rfl <;> exact ⟨rfl, rfl, rfl⟩
theorem sTX3 {k : Nat} (h : 3 ≤ k ∧ k < 10) : (TX3 k).1 = "SaltRow" ∧ (TX3 k).2.2.2 = false ∧ parseFieldDescriptor (TX3 k).2.2.1 = some .int := by
  rw [tyX3_ok k (by omega)]
  rcases (show k = 3 ∨ k = 4 ∨ k = 5 ∨ k = 6 ∨ k = 7 ∨ k = 8 ∨ k = 9 by omega) with rfl | rfl | rfl | rfl | rfl | rfl | rfl <;> exact ⟨rfl, rfl, rfl⟩
theorem sup_id {σ : sS} {i : Nat} : va_up σ i (σ i) = σ := by
  funext j
  by_cases h : j = i
  · subst h; exact va_up_self _ _ _
  · exact va_up_ne _ _ h
theorem sup_up {σ : sS} {i : Nat} {f g : Nat → Int32} : va_up (va_up σ i f) i g = va_up σ i g := by
  funext j
  by_cases h : j = i
  · subst h; rw [va_up_self, va_up_self]
  · rw [va_up_ne _ _ h, va_up_ne _ _ h, va_up_ne _ _ h]
section SW
variable {p : Program} {l : Launch} {e : Env} {R : Room} {s : State} {m : MethodId} {args : Array Value} {below : List Frame} {meth : Method} {c : Code} {H : Heap} {locs : List Loc} {cells slots : Nat} {Q : State → Prop}
variable {cc : ByteArray} {pc : Nat} {ls : Array Slot} {rest : List Value} {D : va_G} {A : Nat → Prop} {a : Nat → Nat} {cs : Nat → ClassId} {σ σ' : sS} {H0 : Heap}
/-- any field of the world's objects -/
theorem sg_get (hx : p.tables.exec = Jvm.exec) (hb : c.code = cc) {own ref C : String} {T : u_T} {N ci index : Nat} {Ts : List Cond} (hts : ∀ w ∈ Ts, w.before args s = true) (hin : ∀ w ∈ u_ws C T N, w ∈ Ts) (hown : s.vm.findClass own = some m.cls) (hK : va_K D vwCl (sT cs) s) (hw : sH D a cs A H0 σ H locs) {i : Nat} (hi : i < 34) {fs : List Value} (he : sE a cs i (σ i) = .inr (ci, fs)) (hc : vwCl[ci]? = some (C, T, N)) (k : Nat) (hk : k < N) (hlink : (Cond.fieldLink own index ref (T k).2.1 (T k).2.2.1).before args s = true) (hsame : (T k).1 = ref) {v : Value} (hv : fs[k]? = some v) (hdg : decode cc pc = .ok (.getfield index, 3))
    (kk : W p l e R s m args below meth c H locs cells slots Q (F0 m (pc + 3) ls (v :: rest))) : W p l e R s m args below meth c H locs cells slots Q (F0 m pc ls (.ref (a i) :: rest)) :=
  va_get hx hb hts hin hown hK hw.1 i (by rw [sW_get hi, he]) hc k hk hlink (fun x h => by rw [← hsame]; exact h) hv hdg kk
theorem sg_put (hx : p.tables.exec = Jvm.exec) (hb : c.code = cc) {own ref C : String} {T : u_T} {N ci index : Nat} {Ts : List Cond} (hts : ∀ w ∈ Ts, w.before args s = true) (hin : ∀ w ∈ u_ws C T N, w ∈ Ts) {ty0 : Nat → FieldType} (hty : ∀ k, k < N → parseFieldDescriptor (T k).2.2.1 = some (ty0 k)) (hnm : ∀ a, a < N → ∀ b, b < N → a ≠ b → (T a).2.1 ≠ (T b).2.1) (hown : s.vm.findClass own = some m.cls) (hK : va_K D vwCl (sT cs) s) (hw : sH D a cs A H0 σ H locs) {i : Nat} (hi : i < 34) {fs : List Value} (he : sE a cs i (σ i) = .inr (ci, fs)) (hc : vwCl[ci]? = some (C, T, N)) (k : Nat) (hk : k < N) (hlink : (Cond.fieldLink own index ref (T k).2.1 (T k).2.2.1).before args s = true) (hsame : (T k).1 = ref) (hfin : (T k).2.2.2 = false) {ty : FieldType} {v : Value} (hd : parseFieldDescriptor (T k).2.2.1 = some ty) (hn : narrow ty v = v) (hfit : fits ty v = true) (hl : k < fs.length) (f : Nat → Int32) (hf : sE a cs i f = .inr (ci, fs.set k v))
    (hdg : decode cc pc = .ok (.putfield index, 3)) (kk : ∀ (H1 : Heap) (locs1 : List Loc), sH D a cs A H0 (va_up σ i f) H1 locs1 → W p l e R s m args below meth c H1 locs1 cells slots Q (F0 m (pc + 3) ls rest)) : W p l e R s m args below meth c H locs cells slots Q (F0 m pc ls (v :: .ref (a i) :: rest)) :=
  va_put hx hb hts hin ty0 hty hnm hown hK hw.1 hw.2.1 hw.2.2 i (by rw [sW_get hi, he]) hc k hk hlink (fun x h => by rw [← hsame]; exact h) hfin hd hn hfit hl hdg (fun H1 locs1 hP hD hS => kk H1 locs1 ⟨by rw [← hf, sW_set hi] at hP; exact hP, by rw [← hf, sW_set hi] at hD; exact hD, hS⟩)
theorem lw_topi {x : Int32} (k : ∀ y : Int32, x = y → W p l e R s m args below meth c H locs cells slots Q (F0 m pc ls (.int y :: rest))) : W p l e R s m args below meth c H locs cells slots Q (F0 m pc ls (.int x :: rest)) := k x rfl
theorem lw_topl {x : Int64} (k : ∀ y : Int64, x = y → W p l e R s m args below meth c H locs cells slots Q (F0 m pc ls (.long y :: rest))) : W p l e R s m args below meth c H locs cells slots Q (F0 m pc ls (.long x :: rest)) := k x rfl
-- a pond's fields
theorem sg_p (hx : p.tables.exec = Jvm.exec) (hb : c.code = cc) {own : String} {index : Nat} {Ts : List Cond} (hts : ∀ w ∈ Ts, w.before args s = true) (hin : ∀ w ∈ wsX10, w ∈ Ts) (hown : s.vm.findClass own = some m.cls) (hK : va_K D vwCl (sT cs) s) (hw : sH D a cs A H0 σ H locs) {i : Nat} (hi : 5 ≤ i ∧ i < 21) (k : Nat) (hk : k < 12) (hlink : (Cond.fieldLink own index "SaltRow$Pond" (TX1 k).2.1 (TX1 k).2.2.1).before args s = true) (hdg : decode cc pc = .ok (.getfield index, 3))
    (kk : W p l e R s m args below meth c H locs cells slots Q (F0 m (pc + 3) ls (.int (σ i k) :: rest))) : W p l e R s m args below meth c H locs cells slots Q (F0 m pc ls (.ref (a i) :: rest)) :=
  sg_get hx hb hts hin hown hK hw (by omega) (sE_p hi) kcX1 k hk hlink (sTX1 hk).1 (sPv_get hk) hdg kk
theorem sp_p (hx : p.tables.exec = Jvm.exec) (hb : c.code = cc) {own : String} {index : Nat} {Ts : List Cond} (hts : ∀ w ∈ Ts, w.before args s = true) (hin : ∀ w ∈ wsX10, w ∈ Ts) (hown : s.vm.findClass own = some m.cls) (hK : va_K D vwCl (sT cs) s) (hw : sH D a cs A H0 σ H locs) {i : Nat} (hi : 5 ≤ i ∧ i < 21) (k : Nat) {v : Int32} (hk : k < 9) (hlink : (Cond.fieldLink own index "SaltRow$Pond" (TX1 k).2.1 (TX1 k).2.2.1).before args s = true) (hdg : decode cc pc = .ok (.putfield index, 3))
    (kk : ∀ (H1 : Heap) (locs1 : List Loc), sH D a cs A H0 (va_up σ i (upd (σ i) k v)) H1 locs1 → W p l e R s m args below meth c H1 locs1 cells slots Q (F0 m (pc + 3) ls rest)) : W p l e R s m args below meth c H locs cells slots Q (F0 m pc ls (.int v :: .ref (a i) :: rest)) :=
  sg_put hx hb hts hin tyX1_ok nmX1 hown hK hw (by omega) (sE_p hi) kcX1 k (by omega) hlink (sTX1 (by omega)).1 (sTX1 (by omega)).2 (sTX1i hk) rfl rfl (by show k < 12; omega) _ (by rw [sE_p hi, sPv_set (by omega)]) hdg kk
theorem sp_z (hx : p.tables.exec = Jvm.exec) (hb : c.code = cc) {own : String} {index : Nat} {Ts : List Cond} (hts : ∀ w ∈ Ts, w.before args s = true) (hin : ∀ w ∈ wsX10, w ∈ Ts) (hown : s.vm.findClass own = some m.cls) (hK : va_K D vwCl (sT cs) s) (hw : sH D a cs A H0 σ H locs) {i : Nat} (hi : 5 ≤ i ∧ i < 21) (k : Nat) {v : Int32} (hz : v = 0 ∨ v = 1) (hk : 9 ≤ k ∧ k < 12) (hlink : (Cond.fieldLink own index "SaltRow$Pond" (TX1 k).2.1 (TX1 k).2.2.1).before args s = true) (hdg : decode cc pc = .ok (.putfield index, 3))
    (kk : ∀ (H1 : Heap) (locs1 : List Loc), sH D a cs A H0 (va_up σ i (upd (σ i) k v)) H1 locs1 → W p l e R s m args below meth c H1 locs1 cells slots Q (F0 m (pc + 3) ls rest)) : W p l e R s m args below meth c H locs cells slots Q (F0 m pc ls (.int v :: .ref (a i) :: rest)) :=
  sg_put hx hb hts hin tyX1_ok nmX1 hown hK hw (by omega) (sE_p hi) kcX1 k (by omega) hlink (sTX1 (by omega)).1 (sTX1 (by omega)).2 (sTX1z hk) (by rcases hz with rfl | rfl <;> rfl) (by rcases hz with rfl | rfl <;> rfl) (by show k < 12; omega) _ (by rw [sE_p hi, sPv_set (by omega)]) hdg kk
-- the pond in focus: its numbers are f, the others' σ's
theorem sg_pf (hx : p.tables.exec = Jvm.exec) (hb : c.code = cc) {own : String} {index : Nat} {Ts : List Cond} (hts : ∀ w ∈ Ts, w.before args s = true) (hin : ∀ w ∈ wsX10, w ∈ Ts) (hown : s.vm.findClass own = some m.cls) (hK : va_K D vwCl (sT cs) s) {i : Nat} {f : Nat → Int32} (hw : sH D a cs A H0 (va_up σ i f) H locs) (hi : 5 ≤ i ∧ i < 21) (k : Nat) (v : Int32) (hv : f k = v) (hk : k < 12) (hlink : (Cond.fieldLink own index "SaltRow$Pond" (TX1 k).2.1 (TX1 k).2.2.1).before args s = true) (hdg : decode cc pc = .ok (.getfield index, 3))
    (kk : W p l e R s m args below meth c H locs cells slots Q (F0 m (pc + 3) ls (.int v :: rest))) : W p l e R s m args below meth c H locs cells slots Q (F0 m pc ls (.ref (a i) :: rest)) :=
  sg_p hx hb hts hin hown hK hw hi k hk hlink hdg (by rw [va_up_self, hv]; exact kk)
theorem sg_pn (hx : p.tables.exec = Jvm.exec) (hb : c.code = cc) {own : String} {index : Nat} {Ts : List Cond} (hts : ∀ w ∈ Ts, w.before args s = true) (hin : ∀ w ∈ wsX10, w ∈ Ts) (hown : s.vm.findClass own = some m.cls) (hK : va_K D vwCl (sT cs) s) {i j : Nat} {f : Nat → Int32} (hw : sH D a cs A H0 (va_up σ i f) H locs) (hj : 5 ≤ j ∧ j < 21) (hij : j ≠ i) (k : Nat) (hk : k < 12) (hlink : (Cond.fieldLink own index "SaltRow$Pond" (TX1 k).2.1 (TX1 k).2.2.1).before args s = true) (hdg : decode cc pc = .ok (.getfield index, 3))
    (kk : W p l e R s m args below meth c H locs cells slots Q (F0 m (pc + 3) ls (.int (σ j k) :: rest))) : W p l e R s m args below meth c H locs cells slots Q (F0 m pc ls (.ref (a j) :: rest)) :=
  sg_p hx hb hts hin hown hK hw hj k hk hlink hdg (by rw [va_up_ne _ _ hij]; exact kk)
theorem sp_pf (hx : p.tables.exec = Jvm.exec) (hb : c.code = cc) {own : String} {index : Nat} {Ts : List Cond} (hts : ∀ w ∈ Ts, w.before args s = true) (hin : ∀ w ∈ wsX10, w ∈ Ts) (hown : s.vm.findClass own = some m.cls) (hK : va_K D vwCl (sT cs) s) {i : Nat} {f : Nat → Int32} (hw : sH D a cs A H0 (va_up σ i f) H locs) (hi : 5 ≤ i ∧ i < 21) (k : Nat) {v : Int32} (hk : k < 9) (hlink : (Cond.fieldLink own index "SaltRow$Pond" (TX1 k).2.1 (TX1 k).2.2.1).before args s = true) (hdg : decode cc pc = .ok (.putfield index, 3))
    (kk : ∀ (H1 : Heap) (locs1 : List Loc), sH D a cs A H0 (va_up σ i (upd f k v)) H1 locs1 → W p l e R s m args below meth c H1 locs1 cells slots Q (F0 m (pc + 3) ls rest)) : W p l e R s m args below meth c H locs cells slots Q (F0 m pc ls (.int v :: .ref (a i) :: rest)) :=
  sp_p hx hb hts hin hown hK hw hi k hk hlink hdg (fun H1 locs1 h => kk H1 locs1 (by rw [va_up_self, sup_up] at h; exact h))
theorem sp_zf (hx : p.tables.exec = Jvm.exec) (hb : c.code = cc) {own : String} {index : Nat} {Ts : List Cond} (hts : ∀ w ∈ Ts, w.before args s = true) (hin : ∀ w ∈ wsX10, w ∈ Ts) (hown : s.vm.findClass own = some m.cls) (hK : va_K D vwCl (sT cs) s) {i : Nat} {f : Nat → Int32} (hw : sH D a cs A H0 (va_up σ i f) H locs) (hi : 5 ≤ i ∧ i < 21) (k : Nat) {v : Int32} (hz : v = 0 ∨ v = 1) (hk : 9 ≤ k ∧ k < 12) (hlink : (Cond.fieldLink own index "SaltRow$Pond" (TX1 k).2.1 (TX1 k).2.2.1).before args s = true) (hdg : decode cc pc = .ok (.putfield index, 3))
    (kk : ∀ (H1 : Heap) (locs1 : List Loc), sH D a cs A H0 (va_up σ i (upd f k v)) H1 locs1 → W p l e R s m args below meth c H1 locs1 cells slots Q (F0 m (pc + 3) ls rest)) : W p l e R s m args below meth c H locs cells slots Q (F0 m pc ls (.int v :: .ref (a i) :: rest)) :=
  sp_z hx hb hts hin hown hK hw hi k hz hk hlink hdg (fun H1 locs1 h => kk H1 locs1 (by rw [va_up_self, sup_up] at h; exact h))
-- a row's fields
theorem sg_rq (hx : p.tables.exec = Jvm.exec) (hb : c.code = cc) {own : String} {index : Nat} {Ts : List Cond} (hts : ∀ w ∈ Ts, w.before args s = true) (hin : ∀ w ∈ wsX20, w ∈ Ts) (hown : s.vm.findClass own = some m.cls) (hK : va_K D vwCl (sT cs) s) (hw : sH D a cs A H0 σ H locs) {r : Nat} (hr : r < 2) (hlink : (Cond.fieldLink own index "SaltRow$Row" "ponds" "[LSaltRow$Pond;").before args s = true) (hdg : decode cc pc = .ok (.getfield index, 3))
    (kk : W p l e R s m args below meth c H locs cells slots Q (F0 m (pc + 3) ls (.ref (a (3 + r)) :: rest))) : W p l e R s m args below meth c H locs cells slots Q (F0 m pc ls (.ref (a (1 + r)) :: rest)) :=
  sg_get hx hb hts hin hown hK hw (by omega) (sE_r hr) kcX2 0 (by omega) hlink rfl rfl hdg kk
theorem sg_r (hx : p.tables.exec = Jvm.exec) (hb : c.code = cc) {own : String} {index : Nat} {Ts : List Cond} (hts : ∀ w ∈ Ts, w.before args s = true) (hin : ∀ w ∈ wsX20, w ∈ Ts) (hown : s.vm.findClass own = some m.cls) (hK : va_K D vwCl (sT cs) s) (hw : sH D a cs A H0 σ H locs) {r : Nat} (hr : r < 2) (k : Nat) (hk : 1 ≤ k ∧ k < 5) (hlink : (Cond.fieldLink own index "SaltRow$Row" (TX2 k).2.1 (TX2 k).2.2.1).before args s = true) (hdg : decode cc pc = .ok (.getfield index, 3))
    (kk : W p l e R s m args below meth c H locs cells slots Q (F0 m (pc + 3) ls (.int (σ (1 + r) k) :: rest))) : W p l e R s m args below meth c H locs cells slots Q (F0 m pc ls (.ref (a (1 + r)) :: rest)) :=
  sg_get hx hb hts hin hown hK hw (by omega) (sE_r hr) kcX2 k (by omega) hlink (sTX2 hk).1 (sRv_get hk) hdg kk
theorem sp_r (hx : p.tables.exec = Jvm.exec) (hb : c.code = cc) {own : String} {index : Nat} {Ts : List Cond} (hts : ∀ w ∈ Ts, w.before args s = true) (hin : ∀ w ∈ wsX20, w ∈ Ts) (hown : s.vm.findClass own = some m.cls) (hK : va_K D vwCl (sT cs) s) (hw : sH D a cs A H0 σ H locs) {r : Nat} (hr : r < 2) (k : Nat) {v : Int32} (hk : 1 ≤ k ∧ k < 5) (hlink : (Cond.fieldLink own index "SaltRow$Row" (TX2 k).2.1 (TX2 k).2.2.1).before args s = true) (hdg : decode cc pc = .ok (.putfield index, 3))
    (kk : ∀ (H1 : Heap) (locs1 : List Loc), sH D a cs A H0 (va_up σ (1 + r) (upd (σ (1 + r)) k v)) H1 locs1 → W p l e R s m args below meth c H1 locs1 cells slots Q (F0 m (pc + 3) ls rest)) : W p l e R s m args below meth c H locs cells slots Q (F0 m pc ls (.int v :: .ref (a (1 + r)) :: rest)) :=
  sg_put hx hb hts hin tyX2_ok nmX2 hown hK hw (by omega) (sE_r hr) kcX2 k (by omega) hlink (sTX2 hk).1 (sTX2 hk).2.1 (sTX2 hk).2.2 rfl rfl (by show k < 5; omega) _ (by rw [sE_r hr, sRv_set hk]) hdg kk
-- a family's fields
theorem sg_fq (hx : p.tables.exec = Jvm.exec) (hb : c.code = cc) {own : String} {index : Nat} {Ts : List Cond} (hts : ∀ w ∈ Ts, w.before args s = true) (hin : ∀ w ∈ wsX00, w ∈ Ts) (hown : s.vm.findClass own = some m.cls) (hK : va_K D vwCl (sT cs) s) (hw : sH D a cs A H0 σ H locs) {j : Nat} (hj : j < 6) (hlink : (Cond.fieldLink own index "SaltRow$Family" "rights" "[I").before args s = true) (hdg : decode cc pc = .ok (.getfield index, 3))
    (kk : W p l e R s m args below meth c H locs cells slots Q (F0 m (pc + 3) ls (.ref (a (28 + j)) :: rest))) : W p l e R s m args below meth c H locs cells slots Q (F0 m pc ls (.ref (a (22 + j)) :: rest)) :=
  sg_get hx hb hts hin hown hK hw (by omega) (sE_f hj) kcX0 0 (by omega) hlink rfl rfl hdg kk
theorem sg_f (hx : p.tables.exec = Jvm.exec) (hb : c.code = cc) {own : String} {index : Nat} {Ts : List Cond} (hts : ∀ w ∈ Ts, w.before args s = true) (hin : ∀ w ∈ wsX00, w ∈ Ts) (hown : s.vm.findClass own = some m.cls) (hK : va_K D vwCl (sT cs) s) (hw : sH D a cs A H0 σ H locs) {j : Nat} (hj : j < 6) (k : Nat) (hk : 1 ≤ k ∧ k < 6) (hlink : (Cond.fieldLink own index "SaltRow$Family" (TX0 k).2.1 (TX0 k).2.2.1).before args s = true) (hdg : decode cc pc = .ok (.getfield index, 3))
    (kk : W p l e R s m args below meth c H locs cells slots Q (F0 m (pc + 3) ls (.int (σ (22 + j) k) :: rest))) : W p l e R s m args below meth c H locs cells slots Q (F0 m pc ls (.ref (a (22 + j)) :: rest)) :=
  sg_get hx hb hts hin hown hK hw (by omega) (sE_f hj) kcX0 k (by omega) hlink (sTX0 hk).1 (sFv_get hk) hdg kk
theorem sp_f (hx : p.tables.exec = Jvm.exec) (hb : c.code = cc) {own : String} {index : Nat} {Ts : List Cond} (hts : ∀ w ∈ Ts, w.before args s = true) (hin : ∀ w ∈ wsX00, w ∈ Ts) (hown : s.vm.findClass own = some m.cls) (hK : va_K D vwCl (sT cs) s) (hw : sH D a cs A H0 σ H locs) {j : Nat} (hj : j < 6) (k : Nat) {v : Int32} (hk : 1 ≤ k ∧ k < 6) (hlink : (Cond.fieldLink own index "SaltRow$Family" (TX0 k).2.1 (TX0 k).2.2.1).before args s = true) (hdg : decode cc pc = .ok (.putfield index, 3))
    (kk : ∀ (H1 : Heap) (locs1 : List Loc), sH D a cs A H0 (va_up σ (22 + j) (upd (σ (22 + j)) k v)) H1 locs1 → W p l e R s m args below meth c H1 locs1 cells slots Q (F0 m (pc + 3) ls rest)) : W p l e R s m args below meth c H locs cells slots Q (F0 m pc ls (.int v :: .ref (a (22 + j)) :: rest)) :=
  sg_put hx hb hts hin tyX0_ok nmX0 hown hK hw (by omega) (sE_f hj) kcX0 k (by omega) hlink (sTX0 hk).1 (sTX0 hk).2.1 (sTX0 hk).2.2 rfl rfl (by show k < 6; omega) _ (by rw [sE_f hj, sFv_set hk]) hdg kk
-- the object's fields
theorem sg_oq (hx : p.tables.exec = Jvm.exec) (hb : c.code = cc) {own : String} {index : Nat} {Ts : List Cond} (hts : ∀ w ∈ Ts, w.before args s = true) (hin : ∀ w ∈ wsX30, w ∈ Ts) (hown : s.vm.findClass own = some m.cls) (hK : va_K D vwCl (sT cs) s) (hw : sH D a cs A H0 σ H locs) (k : Nat) {v : Nat} (hv : (k = 0 ∧ v = a 1) ∨ (k = 1 ∧ v = a 2) ∨ (k = 2 ∧ v = a 21)) (hlink : (Cond.fieldLink own index "SaltRow" (TX3 k).2.1 (TX3 k).2.2.1).before args s = true) (hdg : decode cc pc = .ok (.getfield index, 3))
    (kk : W p l e R s m args below meth c H locs cells slots Q (F0 m (pc + 3) ls (.ref v :: rest))) : W p l e R s m args below meth c H locs cells slots Q (F0 m pc ls (.ref (a 0) :: rest)) := by
  rcases hv with ⟨rfl, rfl⟩ | ⟨rfl, rfl⟩ | ⟨rfl, rfl⟩
  · exact sg_get hx hb hts hin hown hK hw (by omega) sE_o kcX3 0 (by omega) hlink rfl rfl hdg kk
  · exact sg_get hx hb hts hin hown hK hw (by omega) sE_o kcX3 1 (by omega) hlink rfl rfl hdg kk
  · exact sg_get hx hb hts hin hown hK hw (by omega) sE_o kcX3 2 (by omega) hlink rfl rfl hdg kk
theorem sg_o (hx : p.tables.exec = Jvm.exec) (hb : c.code = cc) {own : String} {index : Nat} {Ts : List Cond} (hts : ∀ w ∈ Ts, w.before args s = true) (hin : ∀ w ∈ wsX30, w ∈ Ts) (hown : s.vm.findClass own = some m.cls) (hK : va_K D vwCl (sT cs) s) (hw : sH D a cs A H0 σ H locs) (k : Nat) (hk : 3 ≤ k ∧ k < 10) (hlink : (Cond.fieldLink own index "SaltRow" (TX3 k).2.1 (TX3 k).2.2.1).before args s = true) (hdg : decode cc pc = .ok (.getfield index, 3))
    (kk : W p l e R s m args below meth c H locs cells slots Q (F0 m (pc + 3) ls (.int (σ 0 k) :: rest))) : W p l e R s m args below meth c H locs cells slots Q (F0 m pc ls (.ref (a 0) :: rest)) :=
  sg_get hx hb hts hin hown hK hw (by omega) sE_o kcX3 k (by omega) hlink (sTX3 hk).1 (sOv_get hk) hdg kk
theorem sp_o (hx : p.tables.exec = Jvm.exec) (hb : c.code = cc) {own : String} {index : Nat} {Ts : List Cond} (hts : ∀ w ∈ Ts, w.before args s = true) (hin : ∀ w ∈ wsX30, w ∈ Ts) (hown : s.vm.findClass own = some m.cls) (hK : va_K D vwCl (sT cs) s) (hw : sH D a cs A H0 σ H locs) (k : Nat) {v : Int32} (hk : 3 ≤ k ∧ k < 10) (hlink : (Cond.fieldLink own index "SaltRow" (TX3 k).2.1 (TX3 k).2.2.1).before args s = true) (hdg : decode cc pc = .ok (.putfield index, 3))
    (kk : ∀ (H1 : Heap) (locs1 : List Loc), sH D a cs A H0 (va_up σ 0 (upd (σ 0) k v)) H1 locs1 → W p l e R s m args below meth c H1 locs1 cells slots Q (F0 m (pc + 3) ls rest)) : W p l e R s m args below meth c H locs cells slots Q (F0 m pc ls (.int v :: .ref (a 0) :: rest)) :=
  sg_put hx hb hts hin tyX3_ok nmX3 hown hK hw (by omega) sE_o kcX3 k (by omega) hlink (sTX3 hk).1 (sTX3 hk).2.1 (sTX3 hk).2.2 rfl rfl (by show k < 10; omega) _ (by rw [sE_o, sOv_set hk]) hdg kk
-- arrays
theorem sg_q (hx : p.tables.exec = Jvm.exec) (hb : c.code = cc) (hK : va_K D vwCl (sT cs) s) (hw : sH D a cs A H0 σ H locs) {r k : Nat} {i : Int32} (hr : r < 2) (hk : k < 8) (hi : i = nI k) (hdg : decode cc pc = .ok (.aaload, 1))
    (kk : W p l e R s m args below meth c H locs cells slots Q (F0 m (pc + 1) ls (.ref (a (5 + 8 * r + k)) :: rest))) : W p l e R s m args below meth c H locs cells slots Q (F0 m pc ls (.int i :: .ref (a (3 + r)) :: rest)) := by
  subst hi
  refine va_aldq hx hb hK hw.1 (3 + r) 0 (by rw [sW_get (by omega), sE_q hr]; rfl) rfl (vp_in_nI hk (by omega)) hdg ?_
  rw [nI_clamp (by omega)]
  exact kk
theorem sg_g (hx : p.tables.exec = Jvm.exec) (hb : c.code = cc) (hK : va_K D vwCl (sT cs) s) (hw : sH D a cs A H0 σ H locs) {k : Nat} {i : Int32} (hk : k < 6) (hi : i = nI k) (hdg : decode cc pc = .ok (.aaload, 1))
    (kk : W p l e R s m args below meth c H locs cells slots Q (F0 m (pc + 1) ls (.ref (a (22 + k)) :: rest))) : W p l e R s m args below meth c H locs cells slots Q (F0 m pc ls (.int i :: .ref (a 21) :: rest)) := by
  subst hi
  refine va_aldq hx hb hK hw.1 21 1 (by rw [sW_get (by omega), sE_g]; rfl) rfl (vp_in_nI hk (by omega)) hdg ?_
  rw [nI_clamp (by omega)]
  exact kk
theorem sg_h (hx : p.tables.exec = Jvm.exec) (hb : c.code = cc) (hK : va_K D vwCl (sT cs) s) (hw : sH D a cs A H0 σ H locs) {j k : Nat} {i : Int32} (hj : j < 6) (hk : k < 3) (hi : i = nI k) (hdg : decode cc pc = .ok (.iaload, 1))
    (kk : W p l e R s m args below meth c H locs cells slots Q (F0 m (pc + 1) ls (.int (σ (28 + j) k) :: rest))) : W p l e R s m args below meth c H locs cells slots Q (F0 m pc ls (.int i :: .ref (a (28 + j)) :: rest)) := by
  subst hi
  refine va_iald hx hb hK hw.1 (28 + j) 2 (by rw [sW_get (by omega), sE_h hj]) rfl (vp_in_nI hk (by omega)) hdg ?_
  rw [nI_clamp (by omega)]
  exact kk
theorem sp_h (hx : p.tables.exec = Jvm.exec) (hb : c.code = cc) (hK : va_K D vwCl (sT cs) s) (hw : sH D a cs A H0 σ H locs) {j k : Nat} {i v : Int32} (hj : j < 6) (hk : k < 3) (hi : i = nI k) (hdg : decode cc pc = .ok (.iastore, 1))
    (kk : ∀ (H1 : Heap) (locs1 : List Loc), sH D a cs A H0 (va_up σ (28 + j) (upd (σ (28 + j)) k v)) H1 locs1 → W p l e R s m args below meth c H1 locs1 cells slots Q (F0 m (pc + 1) ls rest)) : W p l e R s m args below meth c H locs cells slots Q (F0 m pc ls (.int v :: .int i :: .ref (a (28 + j)) :: rest)) := by
  subst hi
  refine va_iast hx hb hK hw.1 hw.2.1 hw.2.2 (28 + j) 2 (by rw [sW_get (by omega), sE_h hj]) rfl (vp_in_nI hk (by omega)) hdg (fun H1 locs1 hP hD hS => ?_)
  rw [nI_clamp (by omega), ← sE_h (a := a) (cs := cs) hj, sW_set (by omega)] at hP hD
  exact kk H1 locs1 ⟨hP, hD, hS⟩
-- calls: the run of a callee, and what goes on
theorem sr_V {own C : String} {y : MethodName} {bytes : ByteArray} {maxL nL n index : Nat} {ret : Option FieldType} {ws : List Cond} {rm : Room} {Qc : Array Value → State → Outcome → State → Prop} {free : Addr → Prop} {Ts : List Cond} {As : List Value} {i ci N : Nat} {T : u_T} {fs : List Value}
    (S : CallFix p m c cc nL s args Ts own) (hM : Met l y ws rm (va_Pc (.ref (a i) :: As) (sB D a cs σ H.size)) Qc 0 0 free) (cw : CallW R s args own C index y bytes maxL ret ws rm 0 0 n) (hK : va_K D vwCl (sT cs) s) (hN : sN s) (hw : sH D a cs A H0 σ H locs) (hi : i < 34) (he : sE a cs i (σ i) = .inr (ci, fs)) (hc : vwCl[ci]? = some (C, T, N)) (hn : As.length = n) (hsize : ls.size = nL) (hW : (rest.map fun v => v.category).sum ≤ 8) (hdg : decode cc pc = .ok (.invokevirtual index, 3)) (hf : cells ≤ R.cells ∧ slots ≤ R.slots) :
    va_Run p l e R s m args below meth c H locs cells slots 0 0 (F0 m pc ls (As.reverse ++ .ref (a i) :: rest)) rest (Qc (Value.ref (a i) :: As).toArray) free :=
  va_runV S hM cw ⟨sB_blind, va_recv hK hw.1 hc (by rw [sW_get hi, he]), fun U hU hW => ⟨rfl, sB_of hK hN hw hU hW⟩⟩ rfl hn hsize rfl (lv_room hW) hdg hf
theorem sr_S {own : String} {y : MethodName} {bytes : ByteArray} {maxL nL n index : Nat} {ret : Option FieldType} {ws : List Cond} {rm : Room} {Qc : Array Value → State → Outcome → State → Prop} {free : Addr → Prop} {Ts : List Cond} {As : List Value}
    (S : CallFix p m c cc nL s args Ts own) (hM : Met l y ws rm (va_Pc As (sB D a cs σ H.size)) Qc 0 0 free) (cw : CallB R s args own index y bytes maxL ret ws rm 0 0 n ∧ (Cond.static y).before args s = true) (hK : va_K D vwCl (sT cs) s) (hN : sN s) (hw : sH D a cs A H0 σ H locs) (hn : As.length = n) (hsize : ls.size = nL) (hW : (rest.map fun v => v.category).sum ≤ 8) (hdg : decode cc pc = .ok (.invokestatic index, 3)) (hf : cells ≤ R.cells ∧ slots ≤ R.slots) :
    va_Run p l e R s m args below meth c H locs cells slots 0 0 (F0 m pc ls (As.reverse ++ rest)) rest (Qc As.toArray) free :=
  va_runS S hM cw ⟨sB_blind, fun U hU hW => ⟨rfl, sB_of hK hN hw hU hW⟩⟩ rfl hn hsize rfl (lv_room hW) hdg hf
theorem sr_N {own host : String} {y : MethodName} {bytes : ByteArray} {maxL nL n index : Nat} {ret : Option FieldType} {ws : List Cond} {rm : Room} {Qc : Array Value → State → Outcome → State → Prop} {free : Addr → Prop} {Ts : List Cond} {As : List Value}
    (S : CallFix p m c cc nL s args Ts own) (hM : Met l y ws rm (va_Pc As (sB D a cs σ H.size)) Qc 0 0 free) (cw : va_CN R s args own index y host bytes maxL ret ws rm 0 0 n) (hst : (Cond.static y).before args s = true) (hK : va_K D vwCl (sT cs) s) (hN : sN s) (hw : sH D a cs A H0 σ H locs) (hn : As.length = n) (hsize : ls.size = nL) (hW : (rest.map fun v => v.category).sum ≤ 8) (hdg : decode cc pc = .ok (.invokestatic index, 3)) (hf : cells ≤ R.cells ∧ slots ≤ R.slots) :
    va_Run p l e R s m args below meth c H locs cells slots 0 0 (F0 m pc ls (As.reverse ++ rest)) rest (Qc As.toArray) free :=
  va_runSN S hM ⟨cw, hst, trivial⟩ ⟨sB_blind, fun U hU hW => ⟨rfl, sB_of hK hN hw hU hW⟩⟩ rfl hn hsize rfl (lv_room hW) hdg hf
theorem sc_i {st0 : List Value} {av : Array Value} {v : Int32} (hr : va_Run p l e R s m args below meth c H locs cells slots 0 0 (F0 m pc ls st0) rest (va_Qi (fun r (_ : Unit) => r = v) (fun _ t => va_P D vwCl (sW a cs σ') t.heap) (sA a H.size) av) (sA a H.size)) (hw : sH D a cs A H0 σ H locs) (hA : ∀ q, H0.size ≤ q → A q)
    (kk : ∀ (H1 : Heap) (locs1 : List Loc), sH D a cs A H0 σ' H1 locs1 → W p l e R s m args below meth c H1 locs1 cells slots Q (F0 m (pc + 3) ls (.int v :: rest))) : W p l e R s m args below meth c H locs cells slots Q (F0 m pc ls st0) :=
  va_calli hr hw.2.2 (fun q _ h => sA_sub hw hA h) (fun q h => sA_sub hw hA h) (fun r u t H1 locs1 ht _ hr hB _ _ hS => by subst hr; rw [ht] at hB; exact kk H1 locs1 (sH_call hw hB hS))
theorem sc_l {st0 : List Value} {av : Array Value} {v : Int64} (hr : va_Run p l e R s m args below meth c H locs cells slots 0 0 (F0 m pc ls st0) rest (va_Ql (fun r (_ : Unit) => r = v) (fun _ t => va_P D vwCl (sW a cs σ') t.heap) (sA a H.size) av) (sA a H.size)) (hw : sH D a cs A H0 σ H locs) (hA : ∀ q, H0.size ≤ q → A q)
    (kk : ∀ (H1 : Heap) (locs1 : List Loc), sH D a cs A H0 σ' H1 locs1 → W p l e R s m args below meth c H1 locs1 cells slots Q (F0 m (pc + 3) ls (.long v :: rest))) : W p l e R s m args below meth c H locs cells slots Q (F0 m pc ls st0) :=
  va_calll hr hw.2.2 (fun q _ h => sA_sub hw hA h) (fun q h => sA_sub hw hA h) (fun r u t H1 locs1 ht _ hr hB _ _ hS => by subst hr; rw [ht] at hB; exact kk H1 locs1 (sH_call hw hB hS))
theorem sc_v {st0 : List Value} {av : Array Value} (hr : va_Run p l e R s m args below meth c H locs cells slots 0 0 (F0 m pc ls st0) rest (va_Qv (fun (_ : Unit) => True) (fun _ t => va_P D vwCl (sW a cs σ') t.heap) (sA a H.size) av) (sA a H.size)) (hw : sH D a cs A H0 σ H locs) (hA : ∀ q, H0.size ≤ q → A q)
    (kk : ∀ (H1 : Heap) (locs1 : List Loc), sH D a cs A H0 σ' H1 locs1 → W p l e R s m args below meth c H1 locs1 cells slots Q (F0 m (pc + 3) ls rest)) : W p l e R s m args below meth c H locs cells slots Q (F0 m pc ls st0) :=
  va_callv hr hw.2.2 (fun q _ h => sA_sub hw hA h) (fun q h => sA_sub hw hA h) (fun u t H1 locs1 ht _ _ hB _ _ hS => by rw [ht] at hB; exact kk H1 locs1 (sH_call hw hB hS))
-- a method's end
theorem se_i (hx : p.tables.exec = Jvm.exec) (hb : c.code = cc) (hr : meth.sig.returnType = some .int) (hlocks : meth.locks = false) (hw : sH D a cs (sA a s.heap.size) s.heap σ H locs) {v v' : Int32} (hv : v = v') (hσ : σ = σ') (hdg : decode cc pc = .ok (.ireturn, 1)) : W p l e R s m args below meth c H locs cells slots (MQ below (va_Qi (fun r (_ : Unit) => r = v') (fun _ t => va_P D vwCl (sW a cs σ') t.heap) (sA a s.heap.size)) args s cells slots (sA a s.heap.size)) (F0 m pc ls [.int v]) := by
  subst hv; subst hσ
  exact W.iret hx hb hr (fun t ht hW => ⟨⟨v, (), rfl, rfl, by show va_P D vwCl (sW a cs σ) t.heap; rw [ht]; exact hw.1⟩, hw.2.2.F ht⟩) hw.2.2.2.2 hdg hlocks
theorem se_z (hx : p.tables.exec = Jvm.exec) (hb : c.code = cc) (hr : meth.sig.returnType = some .boolean) (hlocks : meth.locks = false) (hw : sH D a cs (sA a s.heap.size) s.heap σ H locs) {v v' : Int32} (hz : v = 0 ∨ v = 1) (hv : v = v') (hσ : σ = σ') (hdg : decode cc pc = .ok (.ireturn, 1)) : W p l e R s m args below meth c H locs cells slots (MQ below (va_Qi (fun r (_ : Unit) => r = v') (fun _ t => va_P D vwCl (sW a cs σ') t.heap) (sA a s.heap.size)) args s cells slots (sA a s.heap.size)) (F0 m pc ls [.int v]) := by
  subst hv; subst hσ
  exact W.zret hx hb hr (by rcases hz with rfl | rfl <;> rfl) (fun t ht hW => ⟨⟨v, (), rfl, rfl, by show va_P D vwCl (sW a cs σ) t.heap; rw [ht]; exact hw.1⟩, hw.2.2.F ht⟩) hw.2.2.2.2 hdg hlocks
theorem se_l (hx : p.tables.exec = Jvm.exec) (hb : c.code = cc) (hr : meth.sig.returnType = some .long) (hlocks : meth.locks = false) (hw : sH D a cs (sA a s.heap.size) s.heap σ H locs) {v v' : Int64} (hv : v = v') (hσ : σ = σ') (hdg : decode cc pc = .ok (.lreturn, 1)) : W p l e R s m args below meth c H locs cells slots (MQ below (va_Ql (fun r (_ : Unit) => r = v') (fun _ t => va_P D vwCl (sW a cs σ') t.heap) (sA a s.heap.size)) args s cells slots (sA a s.heap.size)) (F0 m pc ls [.long v]) := by
  subst hv; subst hσ
  exact W.lret hx hb hr (fun t ht hW => ⟨⟨v, (), rfl, rfl, by show va_P D vwCl (sW a cs σ) t.heap; rw [ht]; exact hw.1⟩, hw.2.2.F ht⟩) hw.2.2.2.2 hdg hlocks
theorem se_v (hx : p.tables.exec = Jvm.exec) (hb : c.code = cc) (hr : meth.sig.returnType = none) (hlocks : meth.locks = false) (hw : sH D a cs (sA a s.heap.size) s.heap σ H locs) (hσ : σ = σ') (hdg : decode cc pc = .ok (.return_, 1)) : W p l e R s m args below meth c H locs cells slots (MQ below (va_Qv (fun (_ : Unit) => True) (fun _ t => va_P D vwCl (sW a cs σ') t.heap) (sA a s.heap.size)) args s cells slots (sA a s.heap.size)) (F0 m pc ls []) := by
  subst hσ
  exact W.vret hx hb hr (fun t ht hW => ⟨⟨(), rfl, trivial, by show va_P D vwCl (sW a cs σ) t.heap; rw [ht]; exact hw.1⟩, hw.2.2.F ht⟩) hw.2.2.2.2 hdg hlocks
theorem se_vw (hx : p.tables.exec = Jvm.exec) (hb : c.code = cc) (hr : meth.sig.returnType = none) (hlocks : meth.locks = false) (hw : sH D a cs (sA a s.heap.size) s.heap σ H locs) (hσ : sW a cs σ = sW a cs σ') (hdg : decode cc pc = .ok (.return_, 1)) : W p l e R s m args below meth c H locs cells slots (MQ below (va_Qv (fun (_ : Unit) => True) (fun _ t => va_P D vwCl (sW a cs σ') t.heap) (sA a s.heap.size)) args s cells slots (sA a s.heap.size)) (F0 m pc ls []) := by
  exact W.vret hx hb hr (fun t ht hW => ⟨⟨(), rfl, trivial, by show va_P D vwCl (sW a cs σ') t.heap; rw [ht, ← hσ]; exact hw.1⟩, hw.2.2.F ht⟩) hw.2.2.2.2 hdg hlocks
end SW
/-- a cell's numbers beyond its fields don't count -/
theorem sW_up {a : Nat → Nat} {cs : Nat → ClassId} {σ : sS} {i : Nat} {f g : Nat → Int32} (h : sE a cs i f = sE a cs i g) : sW a cs (va_up σ i f) = sW a cs (va_up σ i g) := by
  apply List.ext_getElem?
  intro j
  by_cases hl : j < 34
  · rw [sW_get hl, sW_get hl]
    by_cases hj : j = i
    · subst hj; rw [va_up_self, va_up_self, h]
    · rw [va_up_ne _ _ hj, va_up_ne _ _ hj]
  · rw [List.getElem?_eq_none (by rw [sW_len]; omega), List.getElem?_eq_none (by rw [sW_len]; omega)]
theorem sW_pond {a : Nat → Nat} {cs : Nat → ClassId} {σ : sS} {i : Nat} {f g : Nat → Int32} (hi : 5 ≤ i ∧ i < 21) (h : sPv f = sPv g) : sW a cs (va_up σ i f) = sW a cs (va_up σ i g) := sW_up (by rw [sE_p hi, sE_p hi, h])
