/-! The class's constructors: each world as a list, the cells that are made behind it. -/
def sNA (U : State) : Prop := sN U ∧ va_AO "SaltRow$Pond" U ∧ va_AO "SaltRow$Family" U
theorem sNA_calling {v : Array Value} {U : State} {g : JFrame} {mk : MethodId} (h : sNA U) : sNA (U.calling g mk v) := ⟨sN_same (u := U) (U := U.calling g mk v) rfl h.1, va_AO.moved (u := U) (U := U.calling g mk v) (Vm.Alike.refl U.vm) h.2.1, va_AO.moved (u := U) (U := U.calling g mk v) (Vm.Alike.refl U.vm) h.2.2⟩
theorem sNA_warm {s U : State} (h : s.WarmedH U.vm) (hN : sNA s) : sNA U := ⟨sN_warm h hN.1, va_AO.moved h.alike hN.2.1, va_AO.moved h.alike hN.2.2⟩
def sPE : va_E := .inr (kX1, sPv (upd (fun _ => 0) 0 3))
def sPl (L : List Nat) : va_W := L.map (fun x => (x, sPE))
def sQl (L : List Nat) (n : Nat) : vp_A := (n, .inr (.inr (.inr (.inr (fun j => L[j]?)))))
abbrev sRE (q : Nat) : va_E := .inr (kX2, [.ref q, .int 0, .int 0, .int 0, .int 0])
theorem sPl_app (L : List Nat) (n : Nat) : sPl (L ++ [n]) = sPl L ++ [(n, sPE)] := by simp [sPl]
theorem sQl_up (L : List Nat) (N n : Nat) : va_up (fun j => L[j]?) L.length (some n) = (fun j => (L ++ [n])[j]?) := by
  funext j
  by_cases h : j = L.length
  · subst h; rw [va_up_self]; simp
  · rw [va_up_ne _ _ h]
    show L[j]? = (L ++ [n])[j]?
    by_cases h2 : j < L.length
    · rw [List.getElem?_append_left h2]
    · rw [List.getElem?_eq_none (l := L) (by omega), List.getElem?_eq_none (by rw [List.length_append]; show L.length + 1 ≤ j; omega)]
theorem mX1_i_l : Cond.methodLink RX1 3 objectInit ∈ wsX1_init := by decide +kernel
theorem mX1_i_i : Cond.instanceMethod objectInit ∈ wsX1_init := by decide +kernel
theorem mX1_i_c : Cond.code objectInit ⟨#[0xb1]⟩ 1 none ∈ wsX1_init := by decide +kernel
theorem mX1_i_f : Cond.fieldLink RX1 9 "SaltRow$Pond" "area" "I" ∈ wsX1_init := by decide +kernel
theorem iX1_i_X1 : ∀ w ∈ wsX10, w ∈ wsX1_init := by decide +kernel
set_option maxHeartbeats 4000000 in
set_option maxRecDepth 100000 in
/-- Pond(): the area is 3 -/
theorem zX1_init (l : Launch) (D : va_G) (h0 sz : Nat) : Met l yX1_init wsX1_init ({ frames := 1, cells := 0, slots := 0, locals := 12 }) (va_Pc [.ref h0] (fun U => U.heap.size = sz ∧ va_P D vwCl [(h0, .inr (kX1, sPv (fun _ => 0)))] U.heap ∧ va_K D vwCl [] U ∧ va_D (fun _ => True) [(h0, .inr (kX1, sPv (fun _ => 0)))])) (va_Qv (fun (_ : Unit) => True) (fun _ t => va_P D vwCl [(h0, sPE)] t.heap ∧ va_D (va_A [(h0, .inr (kX1, sPv (fun _ => 0)))] sz) [(h0, sPE)]) (va_A [(h0, .inr (kX1, sPv (fun _ => 0)))] sz)) 0 0 (va_A [(h0, .inr (kX1, sPv (fun _ => 0)))] sz) := by
  refine Met.ofW (cc := cX1_init) (maxL := 1) (ret := none) (by decide) rfl ?_
  intro p e s m args below meth c s₁ B hml hv
  obtain ⟨rfl, hsz, hP, hK, hD0⟩ := hv
  have hx := B.exec
  have hb := B.bytes
  have hr := B.returns
  have hts := atoms_spec (ws := wsX1_init) B.pre
  have hown : s.vm.findClass RX1 = some m.cls := findClass_of_methodNamed B.named
  have hlocks := B.notSynchronized
  subst hsz
  have hD := hD0.self (sz := s.heap.size)
  have hS : va_S (va_A [(h0, .inr (kX1, sPv (fun _ => 0)))] s.heap.size) s.heap s.heap [] := va_S.rf
  have hl := lv_entry ([.ref h0]) (n := 1) (Nat.le_of_ble_eq_true rfl)
  rw [lg_entry_eq]
  generalize (lg_sl ([.ref h0]) ++ List.replicate (1 - (lg_sl ([.ref h0])).length) Slot.unset).toArray = ls at hl ⊢
  have hl : lv_has ls 1 [(0, .ref h0)] := hl
  refine lv_aload_n hx hb dX1_init_0 rfl (lv_at hl 0 rfl) ?_
  refine W.objInit hx hb hown (hts _ mX1_i_l) (hts _ mX1_i_i) (hts _ mX1_i_c) rfl (by rw [hml]; exact hl.1) rfl dX1_init_1 (Nat.le_of_ble_eq_true rfl) (Nat.le_of_ble_eq_true rfl) ?_
  refine W.eq (g2 := F0 m 4 ls []) rfl ?_
  refine lv_aload_n hx hb dX1_init_4 rfl (lv_at hl 0 rfl) ?_
  refine lv_iconst (v := 3) hx hb dX1_init_5 (by decide) ?_
  refine va_put (D := D) (ci := kX1) (v := .int 3) (ty := .int) (C := RX1) (T := TX1) (N := 12) hx hb hts iX1_i_X1 tyX1 tyX1_ok nmX1 hown hK hP hD hS 0 rfl kcX1 0 (by decide) (hts _ mX1_i_f) (fun _ h9 => h9) rfl (by decide +kernel) rfl rfl (Nat.le_of_ble_eq_true rfl) dX1_init_6 (fun H locs hP hD hS => ?_)
  exact W.vret hx hb hr (fun t ht hW => ⟨⟨(), rfl, trivial, by show va_P D vwCl [(h0, sPE)] t.heap; rw [ht]; exact hP, hD⟩, hS.F ht⟩) hS.2.2 dX1_init_9 hlocks
theorem mX2_i_l : Cond.methodLink RX2 3 objectInit ∈ wsX2_init := by decide +kernel
theorem mX2_i_i : Cond.instanceMethod objectInit ∈ wsX2_init := by decide +kernel
theorem mX2_i_c : Cond.code objectInit ⟨#[0xb1]⟩ 1 none ∈ wsX2_init := by decide +kernel
theorem mX2_i_k : Cond.classLink RX2 9 RX1 ∈ wsX2_init := by decide +kernel
theorem mX2_i_f : Cond.fieldLink RX2 11 "SaltRow$Row" "ponds" "[LSaltRow$Pond;" ∈ wsX2_init := by decide +kernel
theorem mX2_i_n : Cond.instantiable RX1 12 ∈ wsX2_init := by decide +kernel
theorem mX2_i_z : Cond.initialized RX1 ∈ wsX2_init := by decide +kernel
theorem mX2_i_y : Cond.instanceMethod yX1_init ∈ wsX2_init := by decide +kernel
theorem iX2_i_X1 : ∀ w ∈ wsX10, w ∈ wsX2_init := by decide +kernel
theorem iX2_i_X2 : ∀ w ∈ wsX20, w ∈ wsX2_init := by decide +kernel
abbrev sR0 (h0 : Nat) : va_W := [(h0, .inr (kX2, [.null, .int 0, .int 0, .int 0, .int 0]))]
/-- a row that is made: its array, its ponds -/
abbrev sRW (h0 q : Nat) (cA : ClassId) (L : List Nat) : va_W := [(h0, sRE q), (q, .inl (cA, sQl L 8))] ++ sPl L
def sRQ (D : va_G) (h0 sz : Nat) : Array Value → State → Outcome → State → Prop := va_Qv (fun (u : Nat × ClassId × List Nat) => u.2.2.length = 8) (fun u t => va_P D vwCl (sRW h0 u.1 u.2.1 u.2.2) t.heap ∧ va_K D vwCl [(u.2.1, .object "SaltRow$Pond")] t ∧ va_D (va_A (sR0 h0) sz) (sRW h0 u.1 u.2.1 u.2.2)) (va_A (sR0 h0) sz)
set_option maxHeartbeats 4000000 in
set_option maxRecDepth 100000 in
/-- Row(): an array and eight ponds come -/
theorem zX2_init (l : Launch) (D : va_G) (h0 sz : Nat) : Met l yX2_init wsX2_init ({ frames := 2, cells := 9, slots := 104, locals := 32 }) (va_Pc [.ref h0] (fun U => U.heap.size = sz ∧ va_P D vwCl (sR0 h0) U.heap ∧ va_K D vwCl [] U ∧ va_D (fun _ => True) (sR0 h0) ∧ sNA U)) (sRQ D h0 sz) 9 104 (va_A (sR0 h0) sz) := by
  refine Met.ofW (cc := cX2_init) (maxL := 2) (ret := none) (by decide) rfl ?_
  intro p e s m args below meth c s₁ B hml hv
  obtain ⟨rfl, hsz, hP, hK, hD0, hNA⟩ := hv
  have hx := B.exec
  have hb := B.bytes
  have hr := B.returns
  have hts := atoms_spec (ws := wsX2_init) B.pre
  have hown : s.vm.findClass RX2 = some m.cls := findClass_of_methodNamed B.named
  have hlocks := B.notSynchronized
  have hin : meth.name = "<init>" := (name_of_methodNamed B.named B.method).1
  subst hsz
  have hD := hD0.self (sz := s.heap.size)
  have hA : ∀ q : Nat, s.heap.size ≤ q → (va_A (sR0 h0) s.heap.size) q := fun q h => Or.inr h
  have hS : va_S (va_A (sR0 h0) s.heap.size) s.heap s.heap [] := va_S.rf
  have hl := lv_entry ([.ref h0]) (n := 2) (Nat.le_of_ble_eq_true rfl)
  rw [lg_entry_eq]
  generalize (lg_sl ([.ref h0]) ++ List.replicate (2 - (lg_sl ([.ref h0])).length) Slot.unset).toArray = ls at hl ⊢
  have hl : lv_has ls 2 [(0, .ref h0)] := hl
  refine lv_aload_n hx hb dX2_init_0 rfl (lv_at hl 0 rfl) ?_
  refine W.objInit hx hb hown (hts _ mX2_i_l) (hts _ mX2_i_i) (hts _ mX2_i_c) rfl (by rw [hml]; exact hl.1) rfl dX2_init_1 (Nat.le_of_ble_eq_true rfl) (Nat.le_of_ble_eq_true rfl) ?_
  refine W.eq (g2 := F0 m 4 ls []) rfl ?_
  refine lv_aload_n hx hb dX2_init_4 rfl (lv_at hl 0 rfl) ?_
  refine lv_bipush (v := 8) hx hb dX2_init_5 (by decide) ?_
  refine va_newq (N' := 8) hx hb hown (hts _ mX2_i_k) hNA.2.1 hK hP hD hS hA (by decide) (by decide) (by decide) (Nat.le_of_ble_eq_true rfl) (Nat.le_of_ble_eq_true rfl) dX2_init_7 (fun q cA H hK hP hD hS => ?_)
  refine va_putF (D := D) (ci := kX2) (v := .ref q) (ty := .array (.object "SaltRow$Pond")) (C := RX2) (T := TX2) (N := 5) hx hb hts iX2_i_X2 tyX2 tyX2_ok nmX2 hown hK hP hD hS 0 rfl kcX2 0 (by decide) (hts _ mX2_i_f) (fun _ h9 => h9) rfl hin rfl (by decide +kernel) rfl rfl (Nat.le_of_ble_eq_true rfl) dX2_init_10 (fun H locs hP hD hS => ?_)
  refine lv_iconst (v := 0) hx hb dX2_init_13 (by decide) ?_
  refine lv_istore_n (lv' := [(1, .int 0), (0, .ref h0)]) hx hb dX2_init_14 rfl hl (by decide) rfl (fun ls hl => ?_)
  have loop : ∀ (n : Nat) (L : List Nat) (H : Heap) (locs : List Loc) (ls : Array Slot), L.length + n = 8 → va_P D vwCl (sRW h0 q cA L) H → va_D (va_A (sR0 h0) s.heap.size) (sRW h0 q cA L) → va_S (va_A (sR0 h0) s.heap.size) s.heap H locs → lv_has ls 2 [(0, .ref h0), (1, .int (nI L.length))] →
      W p l e { frames := 2, cells := 9, slots := 104, locals := 32 } s m #[.ref h0] below meth c H locs (1 + L.length) (8 + 12 * L.length) (MQ below (sRQ D h0 s.heap.size) #[.ref h0] s 9 104 (va_A (sR0 h0) s.heap.size)) (F0 m 15 ls []) := by
    intro n
    induction n with
    | zero =>
      intro L H locs ls hn hP hD hS hl
      refine lv_iload_n hx hb dX2_init_15 rfl (lv_at hl 1 rfl) ?_
      refine lv_aload_n hx hb dX2_init_16 rfl (lv_at hl 0 rfl) ?_
      refine va_get (D := D) (ci := kX2) (v := .ref q) (C := RX2) (T := TX2) (N := 5) hx hb hts iX2_i_X2 hown hK hP 0 rfl kcX2 0 (by decide) (hts _ mX2_i_f) (fun _ h9 => h9) rfl dX2_init_17 ?_
      refine va_alen (v := 8) hx hb hK hP 1 0 rfl rfl rfl dX2_init_20 ?_
      refine lv_icmp_ge (tgt := 43) hx hb dX2_init_21 (by decide) (fun c1 => ?_) (fun c1 => absurd (by rw [show L.length = 8 by omega]; decide) c1)
      refine W.widen (k := 9) (n := 104) (by omega) (by omega) ?_
      exact W.vret hx hb hr (fun t ht hW => ⟨⟨(q, cA, L), rfl, (by show L.length = 8; omega), by rw [ht]; exact hP, va_K.moved hW.alike hK, hD⟩, hS.F ht⟩) hS.2.2 dX2_init_43 hlocks
    | succ n ih =>
      intro L H locs ls hn hP hD hS hl
      refine lv_iload_n hx hb dX2_init_15 rfl (lv_at hl 1 rfl) ?_
      refine lv_aload_n hx hb dX2_init_16 rfl (lv_at hl 0 rfl) ?_
      refine va_get (D := D) (ci := kX2) (v := .ref q) (C := RX2) (T := TX2) (N := 5) hx hb hts iX2_i_X2 hown hK hP 0 rfl kcX2 0 (by decide) (hts _ mX2_i_f) (fun _ h9 => h9) rfl dX2_init_17 ?_
      refine va_alen (v := 8) hx hb hK hP 1 0 rfl rfl rfl dX2_init_20 ?_
      refine lv_icmp_ge (tgt := 43) hx hb dX2_init_21 (by decide) (fun c1 => absurd c1 (nI_ge (a := L.length) (b := 8) (by omega) (by decide))) (fun c1 => ?_)
      refine lv_aload_n hx hb dX2_init_24 rfl (lv_at hl 0 rfl) ?_
      refine va_get (D := D) (ci := kX2) (v := .ref q) (C := RX2) (T := TX2) (N := 5) hx hb hts iX2_i_X2 hown hK hP 0 rfl kcX2 0 (by decide) (hts _ mX2_i_f) (fun _ h9 => h9) rfl dX2_init_25 ?_
      refine lv_iload_n hx hb dX2_init_28 rfl (lv_at hl 1 rfl) ?_
      refine va_new (ci := kX1) (fs := sPv (fun _ => 0)) (C := RX1) (T := TX1) (N := 12) hx hb hts iX2_i_X1 tyX1 tyX1_ok hown (hts _ mX2_i_k) (hts _ mX2_i_n) (hts _ mX2_i_z) hK hP hD hS hA kcX1 (fun j hj => by rcases (show j = 0 ∨ j = 1 ∨ j = 2 ∨ j = 3 ∨ j = 4 ∨ j = 5 ∨ j = 6 ∨ j = 7 ∨ j = 8 ∨ j = 9 ∨ j = 10 ∨ j = 11 by omega) with rfl | rfl | rfl | rfl | rfl | rfl | rfl | rfl | rfl | rfl | rfl | rfl <;> rfl) (by show 1 + L.length + 1 ≤ 9; omega) (by show 8 + 12 * L.length + 12 ≤ 104; omega) dX2_init_29 (fun x H hP hD hS => ?_)
      refine lv_dup hx hb dX2_init_32 rfl ?_
      have hP : va_P D vwCl (([(h0, sRE q), (q, .inl (cA, sQl L 8))] ++ [(x, .inr (kX1, sPv (fun _ => 0)))]) ++ sPl L) H := va_P.swap hP
      have hD : va_D (va_A (sR0 h0) s.heap.size) (([(h0, sRE q), (q, .inl (cA, sQl L 8))] ++ [(x, .inr (kX1, sPv (fun _ => 0)))]) ++ sPl L) := va_D.swap hD
      have hPc := hP.sub (ws' := [(x, .inr (kX1, sPv (fun _ => 0)))]) [2] rfl
      have hDc := hD.sub (ws' := [(x, .inr (kX1, sPv (fun _ => 0)))]) [2] (by decide) rfl
      have hKc := hK.sub (tys' := []) [] rfl
      have hFc := va_free (wc := [(x, .inr (kX1, sPv (fun _ => 0)))]) hD hS hA [2] rfl
      refine va_callv (va_runIN (As := []) (rest := [.ref x, .int (nI L.length), .ref q]) ⟨hx, hb, hml, hown, hts⟩ (zX1_init l D x H.size) ⟨va_cnB 0 hts gX2_init_X1_init_n17 rfl rfl rfl (sN_X2_X1_init hNA.1) (hts _ mX2_i_z) (by decide +kernel) ⟨Nat.le_of_ble_eq_true rfl, Nat.le_of_ble_eq_true rfl⟩, rfl, hts _ mX2_i_y⟩ ⟨fun v U g mk z => by obtain ⟨z0, z1, zP, zK, zD⟩ := z; exact ⟨z0, z1, zP, va_K.moved (u := U) (U := U.calling g mk v) (Vm.Alike.refl U.vm) zK, zD⟩, fun U hU hW => ⟨rfl, by rw [hU], by rw [hU]; exact hPc, va_K.moved hW.alike hKc, hDc.weaken (fun _ _ _ _ => trivial)⟩⟩ rfl rfl hl.1 rfl (lv_room (Nat.le_of_ble_eq_true rfl)) dX2_init_33 ⟨by show 1 + L.length + 1 + 0 ≤ 9; omega, by show 8 + 12 * L.length + 12 + 0 ≤ 104; omega⟩) hS (fun q _ h => hFc q h) hFc (fun u t H1 locs ht hvm hw hB hz1 hk1 hS => ?_)
      obtain ⟨hP1, hD1⟩ := hB
      rw [ht] at hP1
      obtain ⟨hP, hD⟩ := va_joinQ (X := [(h0, sRE q), (q, .inl (cA, sQl L 8)), (x, .inr (kX1, sPv (fun _ => 0)))]) (cx := [(x, .inr (kX1, sPv (fun _ => 0)))]) (wr := [(h0, sRE q), (q, .inl (cA, sQl L 8))]) (w1 := [(x, sPE)]) (pl := sPl L) hP hD [2] [0, 1] rfl rfl (by decide) (by decide) hk1 hFc hP1 hD1
      generalize H1 = H at hP hS ⊢
      refine va_astq (r := (RX1, TX1, 12)) (ci := kX1) (vs := sPv (upd (fun _ => 0) 0 3)) hx hb hK hP hD hS 1 0 2 rfl rfl rfl kcX1 (vp_in_nI (by omega) (by omega)) dX2_init_36 (fun H locs hP hD hS => ?_)
      rw [nI_clamp (by omega), sQl_up L 8 x] at hP hD
      have hP : va_P D vwCl (sRW h0 q cA (L ++ [x])) H := by
        have h2 := va_P.swap (a := [(h0, sRE q), (q, .inl (cA, sQl (L ++ [x]) 8))]) (b := [(x, sPE)]) (c := sPl L) hP
        rw [List.append_assoc, ← sPl_app] at h2
        exact h2
      have hD : va_D (va_A (sR0 h0) s.heap.size) (sRW h0 q cA (L ++ [x])) := by
        have h2 := va_D.swap (a := [(h0, sRE q), (q, .inl (cA, sQl (L ++ [x]) 8))]) (b := [(x, sPE)]) (c := sPl L) hD
        rw [List.append_assoc, ← sPl_app] at h2
        exact h2
      refine lv_iinc (v := nI (L ++ [x]).length) (lv' := [(1, .int (nI (L ++ [x]).length)), (0, .ref h0)]) hx hb dX2_init_37 hl (k := 1) rfl (by rw [List.length_append]; exact nI_1 L.length) (by decide) rfl (fun ls hl => ?_)
      refine lv_goto (tgt := 15) hx hb dX2_init_40 (by decide) ?_
      refine W.widen (k := 1 + (L ++ [x]).length) (n := 8 + 12 * (L ++ [x]).length) (by rw [List.length_append]; show 1 + L.length + 1 + 0 ≤ 1 + (L.length + 1); omega) (by rw [List.length_append]; show 8 + 12 * L.length + 12 + 0 ≤ 8 + 12 * (L.length + 1); omega) ?_
      exact ih (L ++ [x]) H locs ls (by rw [List.length_append]; show L.length + 1 + n = 8; omega) hP hD hS (lv_sub hl [1, 0] rfl)
  have e0 : (fun _ : Nat => (none : Option Nat)) = (fun j => ([] : List Nat)[j]?) := by funext j; simp
  refine W.widen (k := 1 + ([] : List Nat).length) (n := 8 + 12 * ([] : List Nat).length) (by decide) (by decide) ?_
  refine loop 8 [] H locs ls (by decide) ?_ ?_ hS (lv_sub hl [1, 0] rfl)
  · rw [e0] at hP; exact hP
  · rw [e0] at hD; exact hD
