/-! A family comes: ArrayList.add on an empty list, and the list's constructor. -/
/-- what the library's static of empty lists holds; what add needs of the tables -/
def mEd (ed : Nat) (A : Nat → Prop) (U : State) (H : Heap) : Prop := va_Z "java/util/ArrayList" "DEFAULTCAPACITY_EMPTY_ELEMENTDATA" "[Ljava/lang/Object;" (.ref ed) A U H ∧ va_T (.object "java/lang/Object") ed 0 (fun _ => .null) A U H
theorem mEd.moved {ed : Nat} {A : Nat → Prop} {u U : State} {H : Heap} (hvm : u.vm.Alike U.vm) (h : mEd ed A u H) : mEd ed A U H := ⟨va_Z.moved hvm h.1, va_T.moved hvm h.2⟩
theorem mEd.kept {ed : Nat} {A : Nat → Prop} {U : State} {H H1 : Heap} (h : mEd ed A U H) (hq : ∀ a : Nat, a < H.size → ¬ A a → H1[a]? = H[a]?) : mEd ed A U H1 := ⟨h.1.kept hq, h.2.kept hq⟩
theorem mEd.narrow {ed : Nat} {A B : Nat → Prop} {U : State} {H : Heap} (h : mEd ed A U H) (hAB : ∀ q, B q → A q) : mEd ed B U H := ⟨h.1.narrow hAB, h.2.narrow hAB⟩
def mAd (U : State) : Prop := va_AO "java/lang/Object" U ∧ ∃ c0 c1 : ClassId, U.vm.findClass "[I" = some c0 ∧ U.vm.findClass "java/lang/Object" = some c1 ∧ U.vm.assignable c0 c1 = true
theorem mAd.moved {u U : State} (hvm : u.vm.Alike U.vm) (h : mAd u) : mAd U := by
  obtain ⟨h0, c0, c1, h1, h2, h3⟩ := h
  exact ⟨va_AO.moved hvm h0, c0, c1, by rw [hvm.findClass]; exact h1, by rw [hvm.findClass]; exact h2, by rw [hvm.assignable]; exact h3⟩
theorem mJw_e : Cond.fieldLink RJx4a65c 9 "java/util/ArrayList" "elementData" "[Ljava/lang/Object;" ∈ wsJx4a65c_grow_92f84 := by decide +kernel
theorem mJw_s : Cond.fieldLink RJx4a65c 39 "java/util/ArrayList" "DEFAULTCAPACITY_EMPTY_ELEMENTDATA" "[Ljava/lang/Object;" ∈ wsJx4a65c_grow_92f84 := by decide +kernel
theorem mJw_m1 : Cond.methodLink RJx4a65c 79 Lib.Math.max.name ∈ wsJx4a65c_grow_92f84 := by decide +kernel
theorem mJw_m2 : Cond.static Lib.Math.max.name ∈ wsJx4a65c_grow_92f84 := by decide +kernel
theorem mJw_m3 : Cond.initialized "java/lang/Math" ∈ wsJx4a65c_grow_92f84 := by decide +kernel
theorem mJw_m4 : Cond.code Lib.Math.max.name Lib.Math.max.code 2 (some .int) ∈ wsJx4a65c_grow_92f84 := by decide +kernel
theorem mJw_k : Cond.classLink RJx4a65c 7 "java/lang/Object" ∈ wsJx4a65c_grow_92f84 := by decide +kernel
theorem iJw_L : ∀ w ∈ wsJx4a65c0, w ∈ wsJx4a65c_grow_92f84 := by decide +kernel
abbrev mLg (li ed q : Nat) (cO : ClassId) (f : Nat → Int32) (g : Nat → Option Nat) : va_W := [(li, .inr (kJL, mLv q f)), (q, .inl (cO, 10, .inr (.inr (.inr (.inr g)))))]
set_option maxHeartbeats 4000000 in
set_option maxRecDepth 100000 in
/-- grow(1): ten places -/
theorem zJL_growI (l : Launch) (D : va_G) (li ed sz : Nat) (f : Nat → Int32) : Met l yJx4a65c_grow_92f84 wsJx4a65c_grow_92f84 ({ frames := 1, cells := 1, slots := 10, locals := 25 }) (va_Pc [.ref li, .int 1] (fun U => U.heap.size = sz ∧ va_P D vwCl (mL1 li ed f) U.heap ∧ va_K D vwCl [] U ∧ va_D (fun _ => True) (mL1 li ed f) ∧ mEd ed (va_A (mL1 li ed f) sz) U U.heap ∧ mAd U)) (va_Qr (fun (_ : ClassId) => True) (fun cO q t => va_P D vwCl (mLg li ed q cO f (fun _ => none)) t.heap ∧ va_K D vwCl [(cO, .object "java/lang/Object")] t ∧ va_D (va_A (mL1 li ed f) sz) (mLg li ed q cO f (fun _ => none))) (va_A (mL1 li ed f) sz)) 1 10 (va_A (mL1 li ed f) sz) := by
  refine Met.ofW (cc := cJx4a65c_grow_92f84) (maxL := 4) (ret := (some (.array (.object "java/lang/Object")))) (by decide) rfl ?_
  intro p e s m args below meth c s₁ B hml hv
  obtain ⟨rfl, hsz, hP, hK, hD0, hE, hO⟩ := hv
  subst hsz
  have hD := hD0.self (sz := s.heap.size)
  have hA : ∀ q : Nat, s.heap.size ≤ q → (va_A (mL1 li ed f) s.heap.size) q := fun q h => Or.inr h
  have hS : va_S (va_A (mL1 li ed f) s.heap.size) s.heap s.heap [] := va_S.rf
  have hx := B.exec
  have hb := B.bytes
  have hr := B.returns
  have hts := atoms_spec (ws := wsJx4a65c_grow_92f84) B.pre
  have hown : s.vm.findClass RJx4a65c = some m.cls := findClass_of_methodNamed B.named
  have hlocks := B.notSynchronized
  have hl := lv_entry ([.ref li, .int 1]) (n := 4) (Nat.le_of_ble_eq_true rfl)
  rw [lg_entry_eq]
  generalize (lg_sl ([.ref li, .int 1]) ++ List.replicate (4 - (lg_sl ([.ref li, .int 1])).length) Slot.unset).toArray = ls at hl ⊢
  have hl : lv_has ls 4 [(0, .ref li), (1, .int 1)] := hl
  refine lv_aload_n hx hb dJx4a65c_grow_92f84_0 rfl (lv_at hl 0 rfl) ?_
  refine va_get (D := D) (ci := kJL) (v := .ref ed) (C := RJx4a65c) (T := TJx4a65c) (N := 3) hx hb hts iJw_L hown hK hP 0 rfl kcJL 1 (by decide) (hts _ mJw_e) (fun _ h9 => h9) rfl dJx4a65c_grow_92f84_1 ?_
  refine va_tlen hx hb hE.2 hS rfl dJx4a65c_grow_92f84_4 ?_
  refine lv_istore_n (lv' := [(2, .int 0), (0, .ref li), (1, .int 1)]) hx hb dJx4a65c_grow_92f84_5 rfl hl (by decide) rfl (fun ls hl => ?_)
  refine lv_iload_n hx hb dJx4a65c_grow_92f84_6 rfl (lv_at hl 0 rfl) ?_
  refine lv_if_gt (tgt := 20) hx hb dJx4a65c_grow_92f84_7 (by decide) (fun c1 => absurd c1 (by decide)) (fun c1 => ?_)
  refine lv_aload_n hx hb dJx4a65c_grow_92f84_10 rfl (lv_at hl 1 rfl) ?_
  refine va_get (D := D) (ci := kJL) (v := .ref ed) (C := RJx4a65c) (T := TJx4a65c) (N := 3) hx hb hts iJw_L hown hK hP 0 rfl kcJL 1 (by decide) (hts _ mJw_e) (fun _ h9 => h9) rfl dJx4a65c_grow_92f84_11 ?_
  refine va_gets hx hb hE.1 hS hown (hts _ mJw_s) (fun _ h9 => h9) dJx4a65c_grow_92f84_14 ?_
  refine lv_acmp_eq (rx := some ed) (ry := some ed) (tgt := 45) hx hb dJx4a65c_grow_92f84_17 (by decide) (fun c2 => ?_) (fun c2 => absurd rfl c2)
  refine lv_aload_n hx hb dJx4a65c_grow_92f84_45 rfl (lv_at hl 1 rfl) ?_
  refine lv_bipush (v := 10) hx hb dJx4a65c_grow_92f84_46 (by decide) ?_
  refine lv_iload_n hx hb dJx4a65c_grow_92f84_48 rfl (lv_at hl 2 rfl) ?_
  refine va_mmax hx hb (hml.trans hl.1.symm) hown (hts _ mJw_m1) (hts _ mJw_m2) (hts _ mJw_m3) (hts _ mJw_m4) (Nat.le_of_ble_eq_true rfl) (Nat.le_of_ble_eq_true rfl) (Nat.le_of_ble_eq_true rfl) (Nat.le_of_ble_eq_true rfl) dJx4a65c_grow_92f84_49 ?_
  refine w_top0 (v := 10) (by decide) ?_
  refine va_newq (N' := 10) hx hb hown (hts _ mJw_k) hO.1 hK hP hD hS hA (by decide) (by decide) (by decide) (Nat.le_of_ble_eq_true rfl) (Nat.le_of_ble_eq_true rfl) dJx4a65c_grow_92f84_52 (fun q cO H hK1 hP hD hS => ?_)
  refine lv_dup_x1 hx hb dJx4a65c_grow_92f84_55 rfl rfl ?_
  refine va_put (D := D) (ci := kJL) (v := .ref q) (ty := .array (.object "java/lang/Object")) (C := RJx4a65c) (T := TJx4a65c) (N := 3) hx hb hts iJw_L tyJx4a65c tyJx4a65c_ok nmJx4a65c hown hK hP hD hS 0 rfl kcJL 1 (by decide) (hts _ mJw_e) (fun _ h9 => h9) rfl (by decide +kernel) rfl rfl (Nat.le_of_ble_eq_true rfl) dJx4a65c_grow_92f84_56 (fun H locs hP hD hS => ?_)
  exact W.aret hx hb hr (Or.inr ⟨_, rfl⟩) (Or.inr ⟨_, rfl⟩) (fun t ht hW => ⟨⟨cO, q, rfl, trivial, by subst ht; exact hP, va_K.moved hW.alike hK1, hD⟩, hS.F ht⟩) hS.2.2 dJx4a65c_grow_92f84_59 hlocks
theorem mJv_s : Cond.fieldLink RJx4a65c 48 "java/util/ArrayList" "size" "I" ∈ wsJx4a65c_grow_d5877 := by decide +kernel
theorem iJv_L : ∀ w ∈ wsJx4a65c0, w ∈ wsJx4a65c_grow_d5877 := by decide +kernel
set_option maxHeartbeats 4000000 in
set_option maxRecDepth 100000 in
/-- grow() of an empty list -/
theorem zJL_grow (l : Launch) (D : va_G) (li ed sz : Nat) (f : Nat → Int32) (h0 : f 2 = 0) : Met l yJx4a65c_grow_d5877 wsJx4a65c_grow_d5877 ({ frames := 2, cells := 1, slots := 10, locals := 48 }) (va_Pc [.ref li] (fun U => U.heap.size = sz ∧ va_P D vwCl (mL1 li ed f) U.heap ∧ va_K D vwCl [] U ∧ va_D (fun _ => True) (mL1 li ed f) ∧ mEd ed (va_A (mL1 li ed f) sz) U U.heap ∧ mAd U)) (va_Qr (fun (_ : ClassId) => True) (fun cO q t => va_P D vwCl (mLg li ed q cO f (fun _ => none)) t.heap ∧ va_K D vwCl [(cO, .object "java/lang/Object")] t ∧ va_D (va_A (mL1 li ed f) sz) (mLg li ed q cO f (fun _ => none))) (va_A (mL1 li ed f) sz)) 1 10 (va_A (mL1 li ed f) sz) := by
  refine Met.ofW (cc := cJx4a65c_grow_d5877) (maxL := 1) (ret := (some (.array (.object "java/lang/Object")))) (by decide) rfl ?_
  intro p e s m args below meth c s₁ B hml hv
  obtain ⟨rfl, hsz, hP, hK, hD0, hE, hO⟩ := hv
  subst hsz
  have hD := hD0.self (sz := s.heap.size)
  have hA : ∀ q : Nat, s.heap.size ≤ q → (va_A (mL1 li ed f) s.heap.size) q := fun q h => Or.inr h
  have hS : va_S (va_A (mL1 li ed f) s.heap.size) s.heap s.heap [] := va_S.rf
  have hx := B.exec
  have hb := B.bytes
  have hr := B.returns
  have hts := atoms_spec (ws := wsJx4a65c_grow_d5877) B.pre
  have hown : s.vm.findClass RJx4a65c = some m.cls := findClass_of_methodNamed B.named
  have hlocks := B.notSynchronized
  have hl := lv_entry ([.ref li]) (n := 1) (Nat.le_of_ble_eq_true rfl)
  rw [lg_entry_eq]
  generalize (lg_sl ([.ref li]) ++ List.replicate (1 - (lg_sl ([.ref li])).length) Slot.unset).toArray = ls at hl ⊢
  have hl : lv_has ls 1 [(0, .ref li)] := hl
  refine lv_aload_n hx hb dJx4a65c_grow_d5877_0 rfl (lv_at hl 0 rfl) ?_
  refine lv_aload_n hx hb dJx4a65c_grow_d5877_1 rfl (lv_at hl 0 rfl) ?_
  refine va_get (D := D) (ci := kJL) (v := .int (f 2)) (C := RJx4a65c) (T := TJx4a65c) (N := 3) hx hb hts iJv_L hown hK hP 0 rfl kcJL 2 (by decide) (hts _ mJv_s) (fun _ h9 => h9) rfl dJx4a65c_grow_d5877_2 ?_
  refine lv_iconst (v := 1) hx hb dJx4a65c_grow_d5877_5 (by decide) ?_
  refine lv_iadd hx hb dJx4a65c_grow_d5877_6 ?_
  refine w_top0 (v := 1) (by rw [h0]; rfl) ?_
  refine va_callr (va_runV (As := [.int 1]) (rest := []) ⟨hx, hb, hml, hown, hts⟩ (zJL_growI l D li ed _ f) (cwV 1 hts gJx4a65c_grow_d5877_Jx4a65c_grow_92f84 rfl rfl rfl (by decide +kernel) ⟨Nat.le_of_ble_eq_true rfl, Nat.le_of_ble_eq_true rfl⟩) ⟨fun v U g mk z => by obtain ⟨z0, z1, zP, zK, zD, zE, zO⟩ := z; exact ⟨z0, z1, zP, va_K.moved (u := U) (U := U.calling g mk v) (Vm.Alike.refl U.vm) zK, zD, mEd.moved (u := U) (U := U.calling g mk v) (Vm.Alike.refl U.vm) zE, mAd.moved (u := U) (U := U.calling g mk v) (Vm.Alike.refl U.vm) zO⟩, va_recv hK hP (ci := kJL) (q0 := 0) kcJL rfl, fun U hU hW => ⟨rfl, by rw [hU], by rw [hU]; exact hP, va_K.moved hW.alike hK, hD.weaken (fun _ _ _ _ => trivial), by rw [hU]; exact mEd.moved hW.alike hE, mAd.moved hW.alike hO⟩⟩ rfl rfl hl.1 rfl (lv_room (Nat.le_of_ble_eq_true rfl)) dJx4a65c_grow_d5877_7 ⟨Nat.le_of_ble_eq_true rfl, Nat.le_of_ble_eq_true rfl⟩) hS (fun q _ h => h) (fun q h => h) (fun cO q t H1 locs ht hvm _ hB hz1 hk1 hS => ?_)
  obtain ⟨hP1, hK1, hD1⟩ := hB
  exact W.aret hx hb hr (Or.inr ⟨_, rfl⟩) (Or.inr ⟨_, rfl⟩) (fun t2 ht2 hW => ⟨⟨cO, q, rfl, trivial, by rw [ht2, ← ht]; exact hP1, va_K.moved hW.alike (va_K.moved hvm.symm hK1), hD1⟩, hS.F ht2⟩) hS.2.2 dJx4a65c_grow_d5877_10 hlocks
theorem mJu_s : Cond.fieldLink RJx4a65c 48 "java/util/ArrayList" "size" "I" ∈ wsJx4a65c_add_72be8 := by decide +kernel
theorem iJu_L : ∀ w ∈ wsJx4a65c0, w ∈ wsJx4a65c_add_72be8 := by decide +kernel
abbrev mLn (li ed v : Nat) (cI : ClassId) (f : Nat → Int32) : va_W := [(li, .inr (kJL, mLv ed f)), (v, .inl (cI, 8, .inl (fun _ => 0)))]
set_option maxHeartbeats 4000000 in
set_option maxRecDepth 100000 in
/-- add(e, [], 0) -/
theorem zJL_add3 (l : Launch) (D : va_G) (li ed v sz : Nat) (cI : ClassId) (f : Nat → Int32) (h0 : f 2 = 0) : Met l yJx4a65c_add_72be8 wsJx4a65c_add_72be8 ({ frames := 3, cells := 1, slots := 10, locals := 68 }) (va_Pc [.ref li, .ref v, .ref ed, .int 0] (fun U => U.heap.size = sz ∧ va_P D vwCl (mLn li ed v cI f) U.heap ∧ va_K D vwCl [(cI, .int)] U ∧ va_D (fun _ => True) (mLn li ed v cI f) ∧ mEd ed (va_A (mLn li ed v cI f) sz) U U.heap ∧ mAd U)) (va_Qv (fun (_ : Nat) => True) (fun q t => va_P D vwCl [(li, .inr (kJL, mLv q (upd f 2 1)))] t.heap ∧ va_D (va_A (mLn li ed v cI f) sz) [(li, .inr (kJL, mLv q (upd f 2 1)))]) (va_A (mLn li ed v cI f) sz)) 1 10 (va_A (mLn li ed v cI f) sz) := by
  refine Met.ofW (cc := cJx4a65c_add_72be8) (maxL := 4) (ret := none) (by decide) rfl ?_
  intro p e s m args below meth c s₁ B hml hv
  obtain ⟨rfl, hsz, hP, hK, hD0, hE, hO⟩ := hv
  subst hsz
  have hD := hD0.self (sz := s.heap.size)
  have hA : ∀ q : Nat, s.heap.size ≤ q → (va_A (mLn li ed v cI f) s.heap.size) q := fun q h => Or.inr h
  have hS : va_S (va_A (mLn li ed v cI f) s.heap.size) s.heap s.heap [] := va_S.rf
  have hx := B.exec
  have hb := B.bytes
  have hr := B.returns
  have hts := atoms_spec (ws := wsJx4a65c_add_72be8) B.pre
  have hown : s.vm.findClass RJx4a65c = some m.cls := findClass_of_methodNamed B.named
  have hlocks := B.notSynchronized
  have hl := lv_entry ([.ref li, .ref v, .ref ed, .int 0]) (n := 4) (Nat.le_of_ble_eq_true rfl)
  rw [lg_entry_eq]
  generalize (lg_sl ([.ref li, .ref v, .ref ed, .int 0]) ++ List.replicate (4 - (lg_sl ([.ref li, .ref v, .ref ed, .int 0])).length) Slot.unset).toArray = ls at hl ⊢
  have hl : lv_has ls 4 [(0, .ref li), (1, .ref v), (2, .ref ed), (3, .int 0)] := hl
  refine lv_iload_n hx hb dJx4a65c_add_72be8_0 rfl (lv_at hl 3 rfl) ?_
  refine lv_aload_n hx hb dJx4a65c_add_72be8_1 rfl (lv_at hl 2 rfl) ?_
  refine va_tlen hx hb hE.2 hS rfl dJx4a65c_add_72be8_2 ?_
  refine lv_icmp_ne (tgt := 11) hx hb dJx4a65c_add_72be8_3 (by decide) (fun c1 => absurd rfl c1) (fun c1 => ?_)
  refine lv_aload_n hx hb dJx4a65c_add_72be8_6 rfl (lv_at hl 0 rfl) ?_
  have hPc := hP.sub (ws' := mL1 li ed f) [0] rfl
  have hDc := hD.sub (ws' := mL1 li ed f) [0] (by decide) rfl
  have hFc := va_free (wc := mL1 li ed f) hD hS hA [0] rfl
  refine va_callr (va_runV (As := []) (rest := []) ⟨hx, hb, hml, hown, hts⟩ (zJL_grow l D li ed _ f h0) (cwV 0 hts gJx4a65c_add_72be8_Jx4a65c_grow_d5877 rfl rfl rfl (by decide +kernel) ⟨Nat.le_of_ble_eq_true rfl, Nat.le_of_ble_eq_true rfl⟩) ⟨fun v U g mk z => by obtain ⟨z0, z1, zP, zK, zD, zE, zO⟩ := z; exact ⟨z0, z1, zP, va_K.moved (u := U) (U := U.calling g mk v) (Vm.Alike.refl U.vm) zK, zD, mEd.moved (u := U) (U := U.calling g mk v) (Vm.Alike.refl U.vm) zE, mAd.moved (u := U) (U := U.calling g mk v) (Vm.Alike.refl U.vm) zO⟩, va_recv hK hPc (ci := kJL) (q0 := 0) kcJL rfl, fun U hU hW => ⟨rfl, by rw [hU], by rw [hU]; exact hPc, va_K.moved hW.alike (hK.sub (tys' := []) [] rfl), hDc.weaken (fun _ _ _ _ => trivial), by rw [hU]; exact (mEd.moved hW.alike hE).narrow hFc, mAd.moved hW.alike hO⟩⟩ rfl rfl hl.1 rfl (lv_room (Nat.le_of_ble_eq_true rfl)) dJx4a65c_add_72be8_7 ⟨Nat.le_of_ble_eq_true rfl, Nat.le_of_ble_eq_true rfl⟩) hS (fun q _ h => hFc q h) (fun q h => hFc q h) (fun cO q t H1 locs ht hvm _ hB hz1 hk1 hS => ?_)
  obtain ⟨hP1, hK1, hD1⟩ := hB
  rw [ht] at hP1
  have hK1 := va_K.moved hvm.symm hK1
  obtain ⟨hP, hD⟩ := va_join (wr := [(v, .inl (cI, 8, .inl (fun _ => 0)))]) (w1 := mLg li ed q cO f (fun _ => none)) hP hD [0] [1] rfl rfl (by decide) (by decide) hk1 hFc hP1 hD1
  have hK2 := hK.app hK1
  generalize H1 = H at hP hS ⊢
  refine lv_astore_n (lv' := [(2, .ref q), (0, .ref li), (1, .ref v), (3, .int 0)]) hx hb dJx4a65c_add_72be8_10 rfl hl (by decide) rfl (fun ls hl => ?_)
  refine lv_aload_n hx hb dJx4a65c_add_72be8_11 rfl (lv_at hl 0 rfl) ?_
  refine lv_iload_n hx hb dJx4a65c_add_72be8_12 rfl (lv_at hl 3 rfl) ?_
  refine lv_aload_n hx hb dJx4a65c_add_72be8_13 rfl (lv_at hl 2 rfl) ?_
  have hAny : va_Any "java/lang/Object" s H v := by
    obtain ⟨-, c0, c1, e1, e2, e3⟩ := hO
    have hcI : s.vm.findClass "[I" = some cI := (hK.2 0 _ rfl).2
    cases Option.some.inj (e1.symm.trans hcI)
    obtain ⟨kC, hkC, -⟩ := Vm.findClass_spec hcI
    exact ⟨_, hP 0 _ rfl, rfl, ⟨kC, hkC⟩, fun comp h => by cases Option.some.inj (e2.symm.trans h); exact e3⟩
  refine va_astqM hx hb hK2 hP hD hS 2 1 rfl rfl hAny (vp_in_nI (n := 0) (by decide) (by decide)) dJx4a65c_add_72be8_14 (fun H locs hP hD hS => ?_)
  refine lv_aload_n hx hb dJx4a65c_add_72be8_15 rfl (lv_at hl 1 rfl) ?_
  refine lv_iload_n hx hb dJx4a65c_add_72be8_16 rfl (lv_at hl 3 rfl) ?_
  refine lv_iconst (v := 1) hx hb dJx4a65c_add_72be8_17 (by decide) ?_
  refine lv_iadd hx hb dJx4a65c_add_72be8_18 ?_
  refine w_top0 (v := 1) (by rfl) ?_
  refine va_put (D := D) (ci := kJL) (v := .int 1) (ty := .int) (C := RJx4a65c) (T := TJx4a65c) (N := 3) hx hb hts iJu_L tyJx4a65c tyJx4a65c_ok nmJx4a65c hown hK hP hD hS 1 rfl kcJL 2 (by decide) (hts _ mJu_s) (fun _ h9 => h9) rfl (by decide +kernel) rfl rfl (Nat.le_of_ble_eq_true rfl) dJx4a65c_add_72be8_19 (fun H locs hP hD hS => ?_)
  have hP2 := hP.sub (ws' := [(li, .inr (kJL, mLv q (upd f 2 1)))]) [1] rfl
  have hD2 := hD.sub (ws' := [(li, .inr (kJL, mLv q (upd f 2 1)))]) [1] (by decide) rfl
  exact W.vret hx hb hr (fun t ht hW => ⟨⟨q, rfl, trivial, by rw [ht]; exact hP2, hD2⟩, hS.F ht⟩) hS.2.2 dJx4a65c_add_72be8_22 hlocks
theorem mJt_m : Cond.fieldLink RJx4a65c 63 "java/util/ArrayList" "modCount" "I" ∈ wsJx4a65c_add_9ea2d := by decide +kernel
theorem mJt_q : Cond.sameField "java/util/ArrayList" "java/util/AbstractList" "modCount" "I" ∈ wsJx4a65c_add_9ea2d := by decide +kernel
theorem mJt_e : Cond.fieldLink RJx4a65c 9 "java/util/ArrayList" "elementData" "[Ljava/lang/Object;" ∈ wsJx4a65c_add_9ea2d := by decide +kernel
theorem mJt_s : Cond.fieldLink RJx4a65c 48 "java/util/ArrayList" "size" "I" ∈ wsJx4a65c_add_9ea2d := by decide +kernel
theorem iJt_L : ∀ w ∈ wsJx4a65c0, w ∈ wsJx4a65c_add_9ea2d := by decide +kernel
set_option maxHeartbeats 4000000 in
set_option maxRecDepth 100000 in
/-- add(e) on an empty list -/
theorem zJL_add (l : Launch) (D : va_G) (li ed v sz : Nat) (cI : ClassId) (f : Nat → Int32) (h0 : f 2 = 0) : Met l yJx4a65c_add_9ea2d wsJx4a65c_add_9ea2d ({ frames := 4, cells := 1, slots := 10, locals := 91 }) (va_Pc [.ref li, .ref v] (fun U => U.heap.size = sz ∧ va_P D vwCl (mLn li ed v cI f) U.heap ∧ va_K D vwCl [(cI, .int)] U ∧ va_D (fun _ => True) (mLn li ed v cI f) ∧ mEd ed (va_A (mLn li ed v cI f) sz) U U.heap ∧ mAd U)) (va_Qi (fun r (_ : Nat × Int32) => r = 1) (fun u t => va_P D vwCl [(li, .inr (kJL, [.int u.2, .ref u.1, .int 1]))] t.heap ∧ va_D (va_A (mLn li ed v cI f) sz) [(li, .inr (kJL, [.int u.2, .ref u.1, .int 1]))]) (va_A (mLn li ed v cI f) sz)) 1 10 (va_A (mLn li ed v cI f) sz) := by
  refine Met.ofW (cc := cJx4a65c_add_9ea2d) (maxL := 2) (ret := (some .boolean)) (by decide) rfl ?_
  intro p e s m args below meth c s₁ B hml hv
  obtain ⟨rfl, hsz, hP, hK, hD0, hE, hO⟩ := hv
  subst hsz
  have hD := hD0.self (sz := s.heap.size)
  have hA : ∀ q : Nat, s.heap.size ≤ q → (va_A (mLn li ed v cI f) s.heap.size) q := fun q h => Or.inr h
  have hS : va_S (va_A (mLn li ed v cI f) s.heap.size) s.heap s.heap [] := va_S.rf
  have hx := B.exec
  have hb := B.bytes
  have hr := B.returns
  have hts := atoms_spec (ws := wsJx4a65c_add_9ea2d) B.pre
  have hown : s.vm.findClass RJx4a65c = some m.cls := findClass_of_methodNamed B.named
  have hlocks := B.notSynchronized
  have hl := lv_entry ([.ref li, .ref v]) (n := 2) (Nat.le_of_ble_eq_true rfl)
  rw [lg_entry_eq]
  generalize (lg_sl ([.ref li, .ref v]) ++ List.replicate (2 - (lg_sl ([.ref li, .ref v])).length) Slot.unset).toArray = ls at hl ⊢
  have hl : lv_has ls 2 [(0, .ref li), (1, .ref v)] := hl
  refine lv_aload_n hx hb dJx4a65c_add_9ea2d_0 rfl (lv_at hl 0 rfl) ?_
  refine lv_dup hx hb dJx4a65c_add_9ea2d_1 rfl ?_
  refine va_get (D := D) (ci := kJL) (v := .int (f 0)) (C := RJx4a65c) (T := TJx4a65c) (N := 3) hx hb hts iJt_L hown hK hP 0 rfl kcJL 0 (by decide) (hts _ mJt_m) (fun x h9 => u_same (hts _ mJt_q) x h9) rfl dJx4a65c_add_9ea2d_2 ?_
  refine lv_iconst (v := 1) hx hb dJx4a65c_add_9ea2d_5 (by decide) ?_
  refine lv_iadd hx hb dJx4a65c_add_9ea2d_6 ?_
  refine va_put (D := D) (ci := kJL) (v := .int (f 0 + 1)) (ty := .int) (C := RJx4a65c) (T := TJx4a65c) (N := 3) hx hb hts iJt_L tyJx4a65c tyJx4a65c_ok nmJx4a65c hown hK hP hD hS 0 rfl kcJL 0 (by decide) (hts _ mJt_m) (fun x h9 => u_same (hts _ mJt_q) x h9) rfl (by decide +kernel) rfl rfl (Nat.le_of_ble_eq_true rfl) dJx4a65c_add_9ea2d_7 (fun H locs hP hD hS => ?_)
  have hP : va_P D vwCl (mLn li ed v cI (upd f 0 (f 0 + 1))) H := hP
  have hD : va_D (va_A (mLn li ed v cI f) s.heap.size) (mLn li ed v cI (upd f 0 (f 0 + 1))) := hD
  have hE := hE.kept (H1 := H) (fun a h1 h2 => hS.2.1 a h1 h2)
  refine lv_aload_n hx hb dJx4a65c_add_9ea2d_10 rfl (lv_at hl 0 rfl) ?_
  refine lv_aload_n hx hb dJx4a65c_add_9ea2d_11 rfl (lv_at hl 1 rfl) ?_
  refine lv_aload_n hx hb dJx4a65c_add_9ea2d_12 rfl (lv_at hl 0 rfl) ?_
  refine va_get (D := D) (ci := kJL) (v := .ref ed) (C := RJx4a65c) (T := TJx4a65c) (N := 3) hx hb hts iJt_L hown hK hP 0 rfl kcJL 1 (by decide) (hts _ mJt_e) (fun _ h9 => h9) rfl dJx4a65c_add_9ea2d_13 ?_
  refine lv_aload_n hx hb dJx4a65c_add_9ea2d_16 rfl (lv_at hl 0 rfl) ?_
  refine va_get (D := D) (ci := kJL) (v := .int (f 2)) (C := RJx4a65c) (T := TJx4a65c) (N := 3) hx hb hts iJt_L hown hK hP 0 rfl kcJL 2 (by decide) (hts _ mJt_s) (fun _ h9 => h9) rfl dJx4a65c_add_9ea2d_17 ?_
  refine w_top0 (v := 0) h0 ?_
  have hFc := va_free (wc := mLn li ed v cI (upd f 0 (f 0 + 1))) hD hS hA [0, 1] rfl
  refine va_callv (va_runV (As := [.ref v, .ref ed, .int 0]) (rest := []) ⟨hx, hb, hml, hown, hts⟩ (zJL_add3 l D li ed v _ cI (upd f 0 (f 0 + 1)) h0) (cwV 3 hts gJx4a65c_add_9ea2d_Jx4a65c_add_72be8 rfl rfl rfl (by decide +kernel) ⟨Nat.le_of_ble_eq_true rfl, Nat.le_of_ble_eq_true rfl⟩) ⟨fun v U g mk z => by obtain ⟨z0, z1, zP, zK, zD, zE, zO⟩ := z; exact ⟨z0, z1, zP, va_K.moved (u := U) (U := U.calling g mk v) (Vm.Alike.refl U.vm) zK, zD, mEd.moved (u := U) (U := U.calling g mk v) (Vm.Alike.refl U.vm) zE, mAd.moved (u := U) (U := U.calling g mk v) (Vm.Alike.refl U.vm) zO⟩, va_recv hK hP (ci := kJL) (q0 := 0) kcJL rfl, fun U hU hW => ⟨rfl, by rw [hU], by rw [hU]; exact hP, va_K.moved hW.alike hK, hD.weaken (fun _ _ _ _ => trivial), by rw [hU]; exact (mEd.moved hW.alike hE).narrow hFc, mAd.moved hW.alike hO⟩⟩ rfl rfl hl.1 rfl (lv_room (Nat.le_of_ble_eq_true rfl)) dJx4a65c_add_9ea2d_20 ⟨Nat.le_of_ble_eq_true rfl, Nat.le_of_ble_eq_true rfl⟩) hS (fun q _ h => hFc q h) (fun q h => hFc q h) (fun q t H1 locs ht hvm _ hB hz1 hk1 hS => ?_)
  obtain ⟨hP1, hD1⟩ := hB
  refine lv_iconst (v := 1) hx hb dJx4a65c_add_9ea2d_23 (by decide) ?_
  exact W.zret hx hb hr rfl (fun t2 ht2 hW => ⟨⟨1, (q, f 0 + 1), rfl, rfl, by rw [ht2, ← ht]; exact hP1, hD1.weaken (fun _ _ _ h => hFc _ h)⟩, hS.F ht2⟩) hS.2.2 dJx4a65c_add_9ea2d_24 hlocks
