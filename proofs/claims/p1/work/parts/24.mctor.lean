/-! The reference's constructors, copies. -/
def mPE : va_E := .inr (kX4, mPv (upd (upd (fun _ => 0) 0 3) 10 (-1)))
def mPl (L : List Nat) : va_W := L.map (fun x => (x, mPE))
def mRE (q : Nat) : va_E := .inr (kX5, [.ref q, .int 0, .int 0])
theorem mPl_app (L : List Nat) (n : Nat) : mPl (L ++ [n]) = mPl L ++ [(n, mPE)] := by simp [mPl]
theorem mX4_i_l : Cond.methodLink RX4 3 objectInit ∈ wsX4_init := by decide +kernel
theorem mX4_i_i : Cond.instanceMethod objectInit ∈ wsX4_init := by decide +kernel
theorem mX4_i_c : Cond.code objectInit ⟨#[0xb1]⟩ 1 none ∈ wsX4_init := by decide +kernel
theorem mX4_i_f : Cond.fieldLink RX4 9 "SaltRowModel$Pond" "area" "I" ∈ wsX4_init := by decide +kernel
theorem mX4_i_f2 : Cond.fieldLink RX4 15 "SaltRowModel$Pond" "harvested" "I" ∈ wsX4_init := by decide +kernel
theorem iX4_i_X4 : ∀ w ∈ wsX40, w ∈ wsX4_init := by decide +kernel
set_option maxHeartbeats 4000000 in
set_option maxRecDepth 100000 in
/-- the reference's Pond(): the area is 3, no harvest -/
theorem zX4_init (l : Launch) (D : va_G) (h0 sz : Nat) : Met l yX4_init wsX4_init ({ frames := 1, cells := 0, slots := 0, locals := 12 }) (va_Pc [.ref h0] (fun U => U.heap.size = sz ∧ va_P D vwCl [(h0, .inr (kX4, mPv (fun _ => 0)))] U.heap ∧ va_K D vwCl [] U ∧ va_D (fun _ => True) [(h0, .inr (kX4, mPv (fun _ => 0)))])) (va_Qv (fun (_ : Unit) => True) (fun _ t => va_P D vwCl [(h0, mPE)] t.heap ∧ va_D (va_A [(h0, .inr (kX4, mPv (fun _ => 0)))] sz) [(h0, mPE)]) (va_A [(h0, .inr (kX4, mPv (fun _ => 0)))] sz)) 0 0 (va_A [(h0, .inr (kX4, mPv (fun _ => 0)))] sz) := by
  refine Met.ofW (cc := cX4_init) (maxL := 1) (ret := none) (by decide) rfl ?_
  intro p e s m args below meth c s₁ B hml hv
  obtain ⟨rfl, hsz, hP, hK, hD0⟩ := hv
  have hx := B.exec
  have hb := B.bytes
  have hr := B.returns
  have hts := atoms_spec (ws := wsX4_init) B.pre
  have hown : s.vm.findClass RX4 = some m.cls := findClass_of_methodNamed B.named
  have hlocks := B.notSynchronized
  subst hsz
  have hD := hD0.self (sz := s.heap.size)
  have hS : va_S (va_A [(h0, .inr (kX4, mPv (fun _ => 0)))] s.heap.size) s.heap s.heap [] := va_S.rf
  have hl := lv_entry ([.ref h0]) (n := 1) (Nat.le_of_ble_eq_true rfl)
  rw [lg_entry_eq]
  generalize (lg_sl ([.ref h0]) ++ List.replicate (1 - (lg_sl ([.ref h0])).length) Slot.unset).toArray = ls at hl ⊢
  have hl : lv_has ls 1 [(0, .ref h0)] := hl
  refine lv_aload_n hx hb dX4_init_0 rfl (lv_at hl 0 rfl) ?_
  refine W.objInit hx hb hown (hts _ mX4_i_l) (hts _ mX4_i_i) (hts _ mX4_i_c) rfl (by rw [hml]; exact hl.1) rfl dX4_init_1 (Nat.le_of_ble_eq_true rfl) (Nat.le_of_ble_eq_true rfl) ?_
  refine W.eq (g2 := F0 m 4 ls []) rfl ?_
  refine lv_aload_n hx hb dX4_init_4 rfl (lv_at hl 0 rfl) ?_
  refine lv_iconst (v := 3) hx hb dX4_init_5 (by decide) ?_
  refine va_put (D := D) (ci := kX4) (v := .int 3) (ty := .int) (C := RX4) (T := TX4) (N := 11) hx hb hts iX4_i_X4 tyX4 tyX4_ok nmX4 hown hK hP hD hS 0 rfl kcX4 0 (by decide) (hts _ mX4_i_f) (fun _ h9 => h9) rfl (by decide +kernel) rfl rfl (Nat.le_of_ble_eq_true rfl) dX4_init_6 (fun H locs hP hD hS => ?_)
  refine lv_aload_n hx hb dX4_init_9 rfl (lv_at hl 0 rfl) ?_
  refine lv_iconst (v := -1) hx hb dX4_init_10 (by decide) ?_
  refine va_put (D := D) (ci := kX4) (v := .int (-1)) (ty := .int) (C := RX4) (T := TX4) (N := 11) hx hb hts iX4_i_X4 tyX4 tyX4_ok nmX4 hown hK hP hD hS 0 rfl kcX4 10 (by decide) (hts _ mX4_i_f2) (fun _ h9 => h9) rfl (by decide +kernel) rfl rfl (Nat.le_of_ble_eq_true rfl) dX4_init_11 (fun H locs hP hD hS => ?_)
  exact W.vret hx hb hr (fun t ht hW => ⟨⟨(), rfl, trivial, by show va_P D vwCl [(h0, mPE)] t.heap; rw [ht]; exact hP, hD⟩, hS.F ht⟩) hS.2.2 dX4_init_14 hlocks
theorem mX5_i_l : Cond.methodLink RX5 3 objectInit ∈ wsX5_init := by decide +kernel
theorem mX5_i_i : Cond.instanceMethod objectInit ∈ wsX5_init := by decide +kernel
theorem mX5_i_c : Cond.code objectInit ⟨#[0xb1]⟩ 1 none ∈ wsX5_init := by decide +kernel
theorem mX5_i_k : Cond.classLink RX5 9 RX4 ∈ wsX5_init := by decide +kernel
theorem mX5_i_f : Cond.fieldLink RX5 11 "SaltRowModel$Row" "ponds" "[LSaltRowModel$Pond;" ∈ wsX5_init := by decide +kernel
theorem mX5_i_n : Cond.instantiable RX4 11 ∈ wsX5_init := by decide +kernel
theorem mX5_i_z : Cond.initialized RX4 ∈ wsX5_init := by decide +kernel
theorem mX5_i_y : Cond.instanceMethod yX4_init ∈ wsX5_init := by decide +kernel
theorem iX5_i_X4 : ∀ w ∈ wsX40, w ∈ wsX5_init := by decide +kernel
theorem iX5_i_X5 : ∀ w ∈ wsX50, w ∈ wsX5_init := by decide +kernel
abbrev mR0 (h0 : Nat) : va_W := [(h0, .inr (kX5, [.null, .int 0, .int 0]))]
/-- a row that is made: its array, its ponds -/
abbrev mRW (h0 q : Nat) (cA : ClassId) (L : List Nat) : va_W := [(h0, mRE q), (q, .inl (cA, sQl L 8))] ++ mPl L
def mRQ (D : va_G) (h0 sz : Nat) : Array Value → State → Outcome → State → Prop := va_Qv (fun (u : Nat × ClassId × List Nat) => u.2.2.length = 8) (fun u t => va_P D vwCl (mRW h0 u.1 u.2.1 u.2.2) t.heap ∧ va_K D vwCl [(u.2.1, .object "SaltRowModel$Pond")] t ∧ va_D (va_A (mR0 h0) sz) (mRW h0 u.1 u.2.1 u.2.2)) (va_A (mR0 h0) sz)
set_option maxHeartbeats 4000000 in
set_option maxRecDepth 100000 in
/-- Row(): an array and eight ponds come -/
theorem zX5_init (l : Launch) (D : va_G) (h0 sz : Nat) : Met l yX5_init wsX5_init ({ frames := 2, cells := 9, slots := 96, locals := 32 }) (va_Pc [.ref h0] (fun U => U.heap.size = sz ∧ va_P D vwCl (mR0 h0) U.heap ∧ va_K D vwCl [] U ∧ va_D (fun _ => True) (mR0 h0) ∧ mN U)) (mRQ D h0 sz) 9 96 (va_A (mR0 h0) sz) := by
  refine Met.ofW (cc := cX5_init) (maxL := 2) (ret := none) (by decide) rfl ?_
  intro p e s m args below meth c s₁ B hml hv
  obtain ⟨rfl, hsz, hP, hK, hD0, hNA⟩ := hv
  have hx := B.exec
  have hb := B.bytes
  have hr := B.returns
  have hts := atoms_spec (ws := wsX5_init) B.pre
  have hown : s.vm.findClass RX5 = some m.cls := findClass_of_methodNamed B.named
  have hlocks := B.notSynchronized
  have hin : meth.name = "<init>" := (name_of_methodNamed B.named B.method).1
  subst hsz
  have hD := hD0.self (sz := s.heap.size)
  have hA : ∀ q : Nat, s.heap.size ≤ q → (va_A (mR0 h0) s.heap.size) q := fun q h => Or.inr h
  have hS : va_S (va_A (mR0 h0) s.heap.size) s.heap s.heap [] := va_S.rf
  have hl := lv_entry ([.ref h0]) (n := 2) (Nat.le_of_ble_eq_true rfl)
  rw [lg_entry_eq]
  generalize (lg_sl ([.ref h0]) ++ List.replicate (2 - (lg_sl ([.ref h0])).length) Slot.unset).toArray = ls at hl ⊢
  have hl : lv_has ls 2 [(0, .ref h0)] := hl
  refine lv_aload_n hx hb dX5_init_0 rfl (lv_at hl 0 rfl) ?_
  refine W.objInit hx hb hown (hts _ mX5_i_l) (hts _ mX5_i_i) (hts _ mX5_i_c) rfl (by rw [hml]; exact hl.1) rfl dX5_init_1 (Nat.le_of_ble_eq_true rfl) (Nat.le_of_ble_eq_true rfl) ?_
  refine W.eq (g2 := F0 m 4 ls []) rfl ?_
  refine lv_aload_n hx hb dX5_init_4 rfl (lv_at hl 0 rfl) ?_
  refine lv_bipush (v := 8) hx hb dX5_init_5 (by decide) ?_
  refine va_newq (N' := 8) hx hb hown (hts _ mX5_i_k) (mN_AO hNA) hK hP hD hS hA (by decide) (by decide) (by decide) (Nat.le_of_ble_eq_true rfl) (Nat.le_of_ble_eq_true rfl) dX5_init_7 (fun q cA H hK hP hD hS => ?_)
  refine va_putF (D := D) (ci := kX5) (v := .ref q) (ty := .array (.object "SaltRowModel$Pond")) (C := RX5) (T := TX5) (N := 3) hx hb hts iX5_i_X5 tyX5 tyX5_ok nmX5 hown hK hP hD hS 0 rfl kcX5 0 (by decide) (hts _ mX5_i_f) (fun _ h9 => h9) rfl hin rfl (by decide +kernel) rfl rfl (Nat.le_of_ble_eq_true rfl) dX5_init_10 (fun H locs hP hD hS => ?_)
  refine lv_iconst (v := 0) hx hb dX5_init_13 (by decide) ?_
  refine lv_istore_n (lv' := [(1, .int 0), (0, .ref h0)]) hx hb dX5_init_14 rfl hl (by decide) rfl (fun ls hl => ?_)
  have loop : ∀ (n : Nat) (L : List Nat) (H : Heap) (locs : List Loc) (ls : Array Slot), L.length + n = 8 → va_P D vwCl (mRW h0 q cA L) H → va_D (va_A (mR0 h0) s.heap.size) (mRW h0 q cA L) → va_S (va_A (mR0 h0) s.heap.size) s.heap H locs → lv_has ls 2 [(0, .ref h0), (1, .int (nI L.length))] →
      W p l e { frames := 2, cells := 9, slots := 96, locals := 32 } s m #[.ref h0] below meth c H locs (1 + L.length) (8 + 11 * L.length) (MQ below (mRQ D h0 s.heap.size) #[.ref h0] s 9 96 (va_A (mR0 h0) s.heap.size)) (F0 m 15 ls []) := by
    intro n
    induction n with
    | zero =>
      intro L H locs ls hn hP hD hS hl
      refine lv_iload_n hx hb dX5_init_15 rfl (lv_at hl 1 rfl) ?_
      refine lv_bipush (v := 8) hx hb dX5_init_16 (by decide) ?_
      refine lv_icmp_ge (tgt := 40) hx hb dX5_init_18 (by decide) (fun c1 => ?_) (fun c1 => absurd (by rw [show L.length = 8 by omega]; decide) c1)
      refine W.widen (k := 9) (n := 96) (by omega) (by omega) ?_
      exact W.vret hx hb hr (fun t ht hW => ⟨⟨(q, cA, L), rfl, (by show L.length = 8; omega), by rw [ht]; exact hP, va_K.moved hW.alike hK, hD⟩, hS.F ht⟩) hS.2.2 dX5_init_40 hlocks
    | succ n ih =>
      intro L H locs ls hn hP hD hS hl
      refine lv_iload_n hx hb dX5_init_15 rfl (lv_at hl 1 rfl) ?_
      refine lv_bipush (v := 8) hx hb dX5_init_16 (by decide) ?_
      refine lv_icmp_ge (tgt := 40) hx hb dX5_init_18 (by decide) (fun c1 => absurd c1 (nI_ge (a := L.length) (b := 8) (by omega) (by decide))) (fun c1 => ?_)
      refine lv_aload_n hx hb dX5_init_21 rfl (lv_at hl 0 rfl) ?_
      refine va_get (D := D) (ci := kX5) (v := .ref q) (C := RX5) (T := TX5) (N := 3) hx hb hts iX5_i_X5 hown hK hP 0 rfl kcX5 0 (by decide) (hts _ mX5_i_f) (fun _ h9 => h9) rfl dX5_init_22 ?_
      refine lv_iload_n hx hb dX5_init_25 rfl (lv_at hl 1 rfl) ?_
      refine va_new (ci := kX4) (fs := mPv (fun _ => 0)) (C := RX4) (T := TX4) (N := 11) hx hb hts iX5_i_X4 tyX4 tyX4_ok hown (hts _ mX5_i_k) (hts _ mX5_i_n) (hts _ mX5_i_z) hK hP hD hS hA kcX4 (fun j hj => by rcases (show j = 0 ∨ j = 1 ∨ j = 2 ∨ j = 3 ∨ j = 4 ∨ j = 5 ∨ j = 6 ∨ j = 7 ∨ j = 8 ∨ j = 9 ∨ j = 10 by omega) with rfl | rfl | rfl | rfl | rfl | rfl | rfl | rfl | rfl | rfl | rfl <;> rfl) (by show 1 + L.length + 1 ≤ 9; omega) (by show 8 + 11 * L.length + 11 ≤ 96; omega) dX5_init_26 (fun x H hP hD hS => ?_)
      refine lv_dup hx hb dX5_init_29 rfl ?_
      have hP : va_P D vwCl (([(h0, mRE q), (q, .inl (cA, sQl L 8))] ++ [(x, .inr (kX4, mPv (fun _ => 0)))]) ++ mPl L) H := va_P.swap hP
      have hD : va_D (va_A (mR0 h0) s.heap.size) (([(h0, mRE q), (q, .inl (cA, sQl L 8))] ++ [(x, .inr (kX4, mPv (fun _ => 0)))]) ++ mPl L) := va_D.swap hD
      have hPc := hP.sub (ws' := [(x, .inr (kX4, mPv (fun _ => 0)))]) [2] rfl
      have hDc := hD.sub (ws' := [(x, .inr (kX4, mPv (fun _ => 0)))]) [2] (by decide) rfl
      have hKc := hK.sub (tys' := []) [] rfl
      have hFc := va_free (wc := [(x, .inr (kX4, mPv (fun _ => 0)))]) hD hS hA [2] rfl
      refine va_callv (va_runIN (As := []) (rest := [.ref x, .int (nI L.length), .ref q]) ⟨hx, hb, hml, hown, hts⟩ (zX4_init l D x H.size) ⟨va_cnB 0 hts gX5_init_X4_init_n17 rfl rfl rfl (mN_X5_X4_init hNA) (hts _ mX5_i_z) (by decide +kernel) ⟨Nat.le_of_ble_eq_true rfl, Nat.le_of_ble_eq_true rfl⟩, rfl, hts _ mX5_i_y⟩ ⟨fun v U g mk z => by obtain ⟨z0, z1, zP, zK, zD⟩ := z; exact ⟨z0, z1, zP, va_K.moved (u := U) (U := U.calling g mk v) (Vm.Alike.refl U.vm) zK, zD⟩, fun U hU hW => ⟨rfl, by rw [hU], by rw [hU]; exact hPc, va_K.moved hW.alike hKc, hDc.weaken (fun _ _ _ _ => trivial)⟩⟩ rfl rfl hl.1 rfl (lv_room (Nat.le_of_ble_eq_true rfl)) dX5_init_30 ⟨by show 1 + L.length + 1 + 0 ≤ 9; omega, by show 8 + 11 * L.length + 11 + 0 ≤ 96; omega⟩) hS (fun q _ h => hFc q h) hFc (fun u t H1 locs ht hvm hw hB hz1 hk1 hS => ?_)
      obtain ⟨hP1, hD1⟩ := hB
      rw [ht] at hP1
      obtain ⟨hP, hD⟩ := va_joinQ (X := [(h0, mRE q), (q, .inl (cA, sQl L 8)), (x, .inr (kX4, mPv (fun _ => 0)))]) (cx := [(x, .inr (kX4, mPv (fun _ => 0)))]) (wr := [(h0, mRE q), (q, .inl (cA, sQl L 8))]) (w1 := [(x, mPE)]) (pl := mPl L) hP hD [2] [0, 1] rfl rfl (by decide) (by decide) hk1 hFc hP1 hD1
      generalize H1 = H at hP hS ⊢
      refine va_astq (r := (RX4, TX4, 11)) (ci := kX4) (vs := mPv (upd (upd (fun _ => 0) 0 3) 10 (-1))) hx hb hK hP hD hS 1 0 2 rfl rfl rfl kcX4 (vp_in_nI (by omega) (by omega)) dX5_init_33 (fun H locs hP hD hS => ?_)
      rw [nI_clamp (by omega), sQl_up L 8 x] at hP hD
      have hP : va_P D vwCl (mRW h0 q cA (L ++ [x])) H := by
        have h2 := va_P.swap (a := [(h0, mRE q), (q, .inl (cA, sQl (L ++ [x]) 8))]) (b := [(x, mPE)]) (c := mPl L) hP
        rw [List.append_assoc, ← mPl_app] at h2
        exact h2
      have hD : va_D (va_A (mR0 h0) s.heap.size) (mRW h0 q cA (L ++ [x])) := by
        have h2 := va_D.swap (a := [(h0, mRE q), (q, .inl (cA, sQl (L ++ [x]) 8))]) (b := [(x, mPE)]) (c := mPl L) hD
        rw [List.append_assoc, ← mPl_app] at h2
        exact h2
      refine lv_iinc (v := nI (L ++ [x]).length) (lv' := [(1, .int (nI (L ++ [x]).length)), (0, .ref h0)]) hx hb dX5_init_34 hl (k := 1) rfl (by rw [List.length_append]; exact nI_1 L.length) (by decide) rfl (fun ls hl => ?_)
      refine lv_goto (tgt := 15) hx hb dX5_init_37 (by decide) ?_
      refine W.widen (k := 1 + (L ++ [x]).length) (n := 8 + 11 * (L ++ [x]).length) (by rw [List.length_append]; show 1 + L.length + 1 + 0 ≤ 1 + (L.length + 1); omega) (by rw [List.length_append]; show 8 + 11 * L.length + 11 + 0 ≤ 8 + 11 * (L.length + 1); omega) ?_
      exact ih (L ++ [x]) H locs ls (by rw [List.length_append]; show L.length + 1 + n = 8; omega) hP hD hS (lv_sub hl [1, 0] rfl)
  have e0 : (fun _ : Nat => (none : Option Nat)) = (fun j => ([] : List Nat)[j]?) := by funext j; simp
  refine W.widen (k := 1 + ([] : List Nat).length) (n := 8 + 11 * ([] : List Nat).length) (by decide) (by decide) ?_
  refine loop 8 [] H locs ls (by decide) ?_ ?_ hS (lv_sub hl [1, 0] rfl)
  · rw [e0] at hP; exact hP
  · rw [e0] at hD; exact hD
