/-! The reference's list of families: ArrayList's own methods on an empty list. -/
theorem mJs_f : Cond.fieldLink RJx4a65c 48 "java/util/ArrayList" "size" "I" ∈ wsJx4a65c_size_8abf5 := by decide +kernel
theorem iJs_L : ∀ w ∈ wsJx4a65c0, w ∈ wsJx4a65c_size_8abf5 := by decide +kernel
set_option maxHeartbeats 4000000 in
set_option maxRecDepth 100000 in
/-- size() -/
theorem zJL_size (l : Launch) (D : va_G) (a : Nat → Nat) (cs : Nat → ClassId) (N : Nat) (hN : 12 ≤ N) (σ : sS) : mMi l yJx4a65c_size_8abf5 wsJx4a65c_size_8abf5 ({ frames := 0, cells := 0, slots := 0, locals := 0 }) 0 0 D a cs N [.ref (a 11)] σ (σ 11 2) σ := by
  intro sz
  refine Met.ofW (cc := cJx4a65c_size_8abf5) (maxL := 1) (ret := (some .int)) (by decide) rfl ?_
  intro p e s m args below meth c s₁ B hml hv
  obtain ⟨rfl, hsz, hv2⟩ := hv
  have hv3 : mB D a cs N σ sz s := ⟨hsz, hv2⟩
  subst hsz
  have hw := mH_start hv3
  obtain ⟨-, -, hK, -, -⟩ := hv3
  have hx := B.exec
  have hb := B.bytes
  have hr := B.returns
  have hts := atoms_spec (ws := wsJx4a65c_size_8abf5) B.pre
  have hown : s.vm.findClass RJx4a65c = some m.cls := findClass_of_methodNamed B.named
  have hlocks := B.notSynchronized
  have hl := lv_entry ([.ref (a 11)]) (n := 1) (Nat.le_of_ble_eq_true rfl)
  rw [lg_entry_eq]
  generalize (lg_sl ([.ref (a 11)]) ++ List.replicate (1 - (lg_sl ([.ref (a 11)])).length) Slot.unset).toArray = ls at hl ⊢
  have hl : lv_has ls 1 [(0, .ref (a 11))] := hl
  refine lv_aload_n hx hb dJx4a65c_size_8abf5_0 rfl (lv_at hl 0 rfl) ?_
  refine mg_get hx hb hts iJs_L hown hK hw (i := 11) (by omega) mE_l kcJL 2 (by decide) (hts _ mJs_f) rfl rfl dJx4a65c_size_8abf5_1 ?_
  exact me_i hx hb hr hlocks hw rfl rfl dJx4a65c_size_8abf5_4
theorem mJi_t : Cond.fieldLink RJx35411 1 "java/util/ArrayList$Itr" "this$0" "Ljava/util/ArrayList;" ∈ wsJx35411_init_45d68 := by decide +kernel
theorem mJi_l : Cond.methodLink RJx35411 7 objectInit ∈ wsJx35411_init_45d68 := by decide +kernel
theorem mJi_i : Cond.instanceMethod objectInit ∈ wsJx35411_init_45d68 := by decide +kernel
theorem mJi_c : Cond.code objectInit ⟨#[0xb1]⟩ 1 none ∈ wsJx35411_init_45d68 := by decide +kernel
theorem mJi_r : Cond.fieldLink RJx35411 13 "java/util/ArrayList$Itr" "lastRet" "I" ∈ wsJx35411_init_45d68 := by decide +kernel
theorem mJi_m : Cond.fieldLink RJx35411 17 "java/util/ArrayList" "modCount" "I" ∈ wsJx35411_init_45d68 := by decide +kernel
theorem mJi_s : Cond.sameField "java/util/ArrayList" "java/util/AbstractList" "modCount" "I" ∈ wsJx35411_init_45d68 := by decide +kernel
theorem mJi_e : Cond.fieldLink RJx35411 22 "java/util/ArrayList$Itr" "expectedModCount" "I" ∈ wsJx35411_init_45d68 := by decide +kernel
theorem iJi_I : ∀ w ∈ wsJx354110, w ∈ wsJx35411_init_45d68 := by decide +kernel
theorem iJi_L : ∀ w ∈ wsJx4a65c0, w ∈ wsJx35411_init_45d68 := by decide +kernel
abbrev mIt (li : Nat) (x : Int32) : va_E := .inr (kJI, [.int 0, .int (-1), .int x, .ref li])
abbrev mI0 (h0 li ed : Nat) (f : Nat → Int32) : va_W := [(h0, .inr (kJI, [.int 0, .int 0, .int 0, .null])), (li, .inr (kJL, mLv ed f))]
abbrev mI1 (h0 li ed : Nat) (f : Nat → Int32) : va_W := [(h0, mIt li (f 0)), (li, .inr (kJL, mLv ed f))]
set_option maxHeartbeats 4000000 in
set_option maxRecDepth 100000 in
/-- new Itr(list) -/
theorem zJI_init (l : Launch) (D : va_G) (h0 li ed sz : Nat) (f : Nat → Int32) : Met l yJx35411_init_45d68 wsJx35411_init_45d68 ({ frames := 1, cells := 0, slots := 0, locals := 12 }) (va_Pc [.ref h0, .ref li] (fun U => U.heap.size = sz ∧ va_P D vwCl (mI0 h0 li ed f) U.heap ∧ va_K D vwCl [] U ∧ va_D (fun _ => True) (mI0 h0 li ed f))) (va_Qv (fun (_ : Unit) => True) (fun _ t => va_P D vwCl (mI1 h0 li ed f) t.heap ∧ va_D (va_A (mI0 h0 li ed f) sz) (mI1 h0 li ed f)) (va_A (mI0 h0 li ed f) sz)) 0 0 (va_A (mI0 h0 li ed f) sz) := by
  refine Met.ofW (cc := cJx35411_init_45d68) (maxL := 2) (ret := none) (by decide) rfl ?_
  intro p e s m args below meth c s₁ B hml hv
  obtain ⟨rfl, hsz, hP, hK, hD0⟩ := hv
  have hin : meth.name = "<init>" := (name_of_methodNamed B.named B.method).1
  subst hsz
  have hD := hD0.self (sz := s.heap.size)
  have hS : va_S (va_A (mI0 h0 li ed f) s.heap.size) s.heap s.heap [] := va_S.rf
  have hx := B.exec
  have hb := B.bytes
  have hr := B.returns
  have hts := atoms_spec (ws := wsJx35411_init_45d68) B.pre
  have hown : s.vm.findClass RJx35411 = some m.cls := findClass_of_methodNamed B.named
  have hlocks := B.notSynchronized
  have hl := lv_entry ([.ref h0, .ref li]) (n := 2) (Nat.le_of_ble_eq_true rfl)
  rw [lg_entry_eq]
  generalize (lg_sl ([.ref h0, .ref li]) ++ List.replicate (2 - (lg_sl ([.ref h0, .ref li])).length) Slot.unset).toArray = ls at hl ⊢
  have hl : lv_has ls 2 [(0, .ref h0), (1, .ref li)] := hl
  refine lv_aload_n hx hb dJx35411_init_45d68_0 rfl (lv_at hl 0 rfl) ?_
  refine lv_aload_n hx hb dJx35411_init_45d68_1 rfl (lv_at hl 1 rfl) ?_
  refine va_putF (D := D) (ci := kJI) (v := .ref li) (ty := .object "java/util/ArrayList") (C := RJx35411) (T := TJx35411) (N := 4) hx hb hts iJi_I tyJx35411 tyJx35411_ok nmJx35411 hown hK hP hD hS 0 rfl kcJI 3 (by decide) (hts _ mJi_t) (fun _ h9 => h9) rfl hin rfl (by decide +kernel) rfl rfl (Nat.le_of_ble_eq_true rfl) dJx35411_init_45d68_2 (fun H locs hP hD hS => ?_)
  refine lv_aload_n hx hb dJx35411_init_45d68_5 rfl (lv_at hl 0 rfl) ?_
  refine W.objInit hx hb hown (hts _ mJi_l) (hts _ mJi_i) (hts _ mJi_c) rfl (by rw [hml]; exact hl.1) rfl dJx35411_init_45d68_6 (Nat.le_of_ble_eq_true rfl) (Nat.le_of_ble_eq_true rfl) ?_
  refine W.eq (g2 := F0 m 9 ls []) rfl ?_
  refine lv_aload_n hx hb dJx35411_init_45d68_9 rfl (lv_at hl 0 rfl) ?_
  refine lv_iconst (v := -1) hx hb dJx35411_init_45d68_10 (by decide) ?_
  refine va_put (D := D) (ci := kJI) (v := .int (-1)) (ty := .int) (C := RJx35411) (T := TJx35411) (N := 4) hx hb hts iJi_I tyJx35411 tyJx35411_ok nmJx35411 hown hK hP hD hS 0 rfl kcJI 1 (by decide) (hts _ mJi_r) (fun _ h9 => h9) rfl (by decide +kernel) rfl rfl (Nat.le_of_ble_eq_true rfl) dJx35411_init_45d68_11 (fun H locs hP hD hS => ?_)
  refine lv_aload_n hx hb dJx35411_init_45d68_14 rfl (lv_at hl 0 rfl) ?_
  refine lv_aload_n hx hb dJx35411_init_45d68_15 rfl (lv_at hl 0 rfl) ?_
  refine va_get (D := D) (ci := kJI) (v := .ref li) (C := RJx35411) (T := TJx35411) (N := 4) hx hb hts iJi_I hown hK hP 0 rfl kcJI 3 (by decide) (hts _ mJi_t) (fun _ h9 => h9) rfl dJx35411_init_45d68_16 ?_
  refine va_get (D := D) (ci := kJL) (v := .int (f 0)) (C := RJx4a65c) (T := TJx4a65c) (N := 3) hx hb hts iJi_L hown hK hP 1 rfl kcJL 0 (by decide) (hts _ mJi_m) (fun x h9 => u_same (hts _ mJi_s) x h9) rfl dJx35411_init_45d68_19 ?_
  refine va_put (D := D) (ci := kJI) (v := .int (f 0)) (ty := .int) (C := RJx35411) (T := TJx35411) (N := 4) hx hb hts iJi_I tyJx35411 tyJx35411_ok nmJx35411 hown hK hP hD hS 0 rfl kcJI 2 (by decide) (hts _ mJi_e) (fun _ h9 => h9) rfl (by decide +kernel) rfl rfl (Nat.le_of_ble_eq_true rfl) dJx35411_init_45d68_22 (fun H locs hP hD hS => ?_)
  exact W.vret hx hb hr (fun t ht hW => ⟨⟨(), rfl, trivial, by show va_P D vwCl (mI1 h0 li ed f) t.heap; rw [ht]; exact hP, hD⟩, hS.F ht⟩) hS.2.2 dJx35411_init_45d68_25 hlocks
theorem mJg_k : Cond.classLink RJx4a65c 267 RJx35411 ∈ wsJx4a65c_iterator_32c93 := by decide +kernel
theorem mJg_n : Cond.instantiable RJx35411 4 ∈ wsJx4a65c_iterator_32c93 := by decide +kernel
theorem mJg_z : Cond.initialized RJx35411 ∈ wsJx4a65c_iterator_32c93 := by decide +kernel
theorem mJg_m : Cond.methodLink RJx4a65c 269 yJx35411_init_45d68 ∈ wsJx4a65c_iterator_32c93 := by decide +kernel
theorem mJg_y : Cond.instanceMethod yJx35411_init_45d68 ∈ wsJx4a65c_iterator_32c93 := by decide +kernel
theorem iJg_I : ∀ w ∈ wsJx354110, w ∈ wsJx4a65c_iterator_32c93 := by decide +kernel
abbrev mL1 (li ed : Nat) (f : Nat → Int32) : va_W := [(li, .inr (kJL, mLv ed f))]
abbrev mL2 (li q ed : Nat) (f : Nat → Int32) : va_W := [(li, .inr (kJL, mLv ed f)), (q, mIt li (f 0))]
set_option maxHeartbeats 4000000 in
set_option maxRecDepth 100000 in
/-- iterator() -/
theorem zJL_iter (l : Launch) (D : va_G) (li ed sz : Nat) (f : Nat → Int32) : Met l yJx4a65c_iterator_32c93 wsJx4a65c_iterator_32c93 ({ frames := 2, cells := 1, slots := 4, locals := 33 }) (va_Pc [.ref li] (fun U => U.heap.size = sz ∧ va_P D vwCl (mL1 li ed f) U.heap ∧ va_K D vwCl [] U ∧ va_D (fun _ => True) (mL1 li ed f))) (va_Qr (fun (_ : Unit) => True) (fun _ q t => va_P D vwCl (mL2 li q ed f) t.heap ∧ va_D (va_A (mL1 li ed f) sz) (mL2 li q ed f)) (va_A (mL1 li ed f) sz)) 1 4 (va_A (mL1 li ed f) sz) := by
  refine Met.ofW (cc := cJx4a65c_iterator_32c93) (maxL := 1) (ret := (some (.object "java/util/Iterator"))) (by decide) rfl ?_
  intro p e s m args below meth c s₁ B hml hv
  obtain ⟨rfl, hsz, hP, hK, hD0⟩ := hv
  subst hsz
  have hD := hD0.self (sz := s.heap.size)
  have hA : ∀ q : Nat, s.heap.size ≤ q → (va_A (mL1 li ed f) s.heap.size) q := fun q h => Or.inr h
  have hS : va_S (va_A (mL1 li ed f) s.heap.size) s.heap s.heap [] := va_S.rf
  have hx := B.exec
  have hb := B.bytes
  have hr := B.returns
  have hts := atoms_spec (ws := wsJx4a65c_iterator_32c93) B.pre
  have hown : s.vm.findClass RJx4a65c = some m.cls := findClass_of_methodNamed B.named
  have hlocks := B.notSynchronized
  have hl := lv_entry ([.ref li]) (n := 1) (Nat.le_of_ble_eq_true rfl)
  rw [lg_entry_eq]
  generalize (lg_sl ([.ref li]) ++ List.replicate (1 - (lg_sl ([.ref li])).length) Slot.unset).toArray = ls at hl ⊢
  have hl : lv_has ls 1 [(0, .ref li)] := hl
  refine va_new (ci := kJI) (fs := [.int 0, .int 0, .int 0, .null]) (C := RJx35411) (T := TJx35411) (N := 4) hx hb hts iJg_I tyJx35411 tyJx35411_ok hown (hts _ mJg_k) (hts _ mJg_n) (hts _ mJg_z) hK hP hD hS hA kcJI (fun j hj => by rcases (show j = 0 ∨ j = 1 ∨ j = 2 ∨ j = 3 by omega) with rfl | rfl | rfl | rfl <;> rfl) (Nat.le_of_ble_eq_true rfl) (Nat.le_of_ble_eq_true rfl) dJx4a65c_iterator_32c93_0 (fun q H hP hD hS => ?_)
  refine lv_dup hx hb dJx4a65c_iterator_32c93_3 rfl ?_
  refine lv_aload_n hx hb dJx4a65c_iterator_32c93_4 rfl (lv_at hl 0 rfl) ?_
  have hPc := hP.sub (ws' := mI0 q li ed f) [1, 0] rfl
  have hDc := hD.sub (ws' := mI0 q li ed f) [1, 0] (by decide) rfl
  have hFc := va_free (wc := mI0 q li ed f) hD hS hA [1, 0] rfl
  refine va_callv (va_runI (As := [.ref li]) (rest := [.ref q]) ⟨hx, hb, hml, hown, hts⟩ (zJI_init l D q li ed H.size f) (cwI 1 hts gJx4a65c_iterator_32c93_Jx35411_init_45d68 rfl rfl rfl (hts _ mJg_z) (hts _ mJg_m) (hts _ mJg_y) rfl (by decide +kernel) ⟨Nat.le_of_ble_eq_true rfl, Nat.le_of_ble_eq_true rfl⟩) ⟨fun v U g mk z => by obtain ⟨z0, z1, zP, zK, zD⟩ := z; exact ⟨z0, z1, zP, va_K.moved (u := U) (U := U.calling g mk v) (Vm.Alike.refl U.vm) zK, zD⟩, fun U hU hW => ⟨rfl, by rw [hU], by rw [hU]; exact hPc, va_K.moved hW.alike hK, hDc.weaken (fun _ _ _ _ => trivial)⟩⟩ rfl rfl hl.1 rfl (lv_room (Nat.le_of_ble_eq_true rfl)) dJx4a65c_iterator_32c93_5 ⟨Nat.le_of_ble_eq_true rfl, Nat.le_of_ble_eq_true rfl⟩) hS (fun q _ h => hFc q h) hFc (fun u t H1 locs ht hvm hw hB hz1 hk1 hS => ?_)
  obtain ⟨hP1, hD1⟩ := hB
  rw [ht] at hP1
  have hD1 : va_D (va_A (mL1 li ed f) s.heap.size) (mI1 q li ed f) := hD1.weaken (fun _ _ _ h => hFc _ h)
  have hP2 := hP1.sub (ws' := mL2 li q ed f) [1, 0] rfl
  have hD2 := hD1.sub (ws' := mL2 li q ed f) [1, 0] (by decide) rfl
  exact W.aret hx hb hr (Or.inl ⟨_, rfl⟩) (Or.inr ⟨_, rfl⟩) (fun t ht hW => ⟨⟨(), q, rfl, trivial, by subst ht; exact ⟨hP2, hD2⟩⟩, hS.F ht⟩) hS.2.2 dJx4a65c_iterator_32c93_8 hlocks
theorem mJh_c : Cond.fieldLink RJx35411 25 "java/util/ArrayList$Itr" "cursor" "I" ∈ wsJx35411_hasNext_aae02 := by decide +kernel
theorem mJh_t : Cond.fieldLink RJx35411 1 "java/util/ArrayList$Itr" "this$0" "Ljava/util/ArrayList;" ∈ wsJx35411_hasNext_aae02 := by decide +kernel
theorem iJh_I : ∀ w ∈ wsJx354110, w ∈ wsJx35411_hasNext_aae02 := by decide +kernel
theorem iJh_L : ∀ w ∈ wsJx4a65c0, w ∈ wsJx35411_hasNext_aae02 := by decide +kernel
set_option maxHeartbeats 4000000 in
set_option maxRecDepth 100000 in
/-- hasNext() of an empty list: no -/
theorem zJI_hasNext (l : Launch) (D : va_G) (q li ed sz : Nat) (x : Int32) (f : Nat → Int32) (h0 : f 2 = 0) : Met l yJx35411_hasNext_aae02 wsJx35411_hasNext_aae02 ({ frames := 0, cells := 0, slots := 0, locals := 0 }) (va_Pc [.ref q] (fun U => U.heap.size = sz ∧ va_P D vwCl [(q, mIt li x), (li, .inr (kJL, mLv ed f))] U.heap ∧ va_K D vwCl [] U ∧ mN U)) (va_Qi (fun r (_ : Unit) => r = 0) (fun _ _ => True) (fun q => sz ≤ q)) 0 0 (fun q => sz ≤ q) := by
  refine Met.ofW (cc := cJx35411_hasNext_aae02) (maxL := 1) (ret := (some .boolean)) (by decide) rfl ?_
  intro p e s m args below meth c s₁ B hml hv
  obtain ⟨rfl, hsz, hP, hK, hN2⟩ := hv
  subst hsz
  have hS : va_S (fun q => s.heap.size ≤ q) s.heap s.heap [] := va_S.rf
  have hx := B.exec
  have hb := B.bytes
  have hr := B.returns
  have hts := atoms_spec (ws := wsJx35411_hasNext_aae02) B.pre
  have hown : s.vm.findClass RJx35411 = some m.cls := findClass_of_methodNamed B.named
  have hlocks := B.notSynchronized
  have hl := lv_entry ([.ref q]) (n := 1) (Nat.le_of_ble_eq_true rfl)
  rw [lg_entry_eq]
  generalize (lg_sl ([.ref q]) ++ List.replicate (1 - (lg_sl ([.ref q])).length) Slot.unset).toArray = ls at hl ⊢
  have hl : lv_has ls 1 [(0, .ref q)] := hl
  refine lv_aload_n hx hb dJx35411_hasNext_aae02_0 rfl (lv_at hl 0 rfl) ?_
  refine va_get (D := D) (ci := kJI) (v := .int 0) (C := RJx35411) (T := TJx35411) (N := 4) hx hb hts iJh_I hown hK hP 0 rfl kcJI 0 (by decide) (hts _ mJh_c) (fun _ h9 => h9) rfl dJx35411_hasNext_aae02_1 ?_
  refine lv_aload_n hx hb dJx35411_hasNext_aae02_4 rfl (lv_at hl 0 rfl) ?_
  refine va_get (D := D) (ci := kJI) (v := .ref li) (C := RJx35411) (T := TJx35411) (N := 4) hx hb hts iJh_I hown hK hP 0 rfl kcJI 3 (by decide) (hts _ mJh_t) (fun _ h9 => h9) rfl dJx35411_hasNext_aae02_5 ?_
  refine va_getN (D := D) (ci := kJL) (v := .int (f 2)) (C := RJx4a65c) (T := TJx4a65c) (N := 3) hx hb hts iJh_L hown hK hP 1 rfl kcJL 2 (by decide) (va_Nw.use rfl (mN_SZ hN2)) (fun _ h9 => h9) rfl dJx35411_hasNext_aae02_8 ?_
  refine lv_icmp_eq (tgt := 18) hx hb dJx35411_hasNext_aae02_11 (by decide) (fun c1 => ?_) (fun c1 => absurd h0.symm c1)
  refine lv_iconst (v := 0) hx hb dJx35411_hasNext_aae02_18 (by decide) ?_
  exact W.zret hx hb hr rfl (fun t ht hW => ⟨⟨0, (), rfl, rfl, trivial⟩, hS.F ht⟩) hS.2.2 dJx35411_hasNext_aae02_19 hlocks
/-- behind a call that changed nothing that was there -/
theorem mH_same {D : va_G} {a : Nat → Nat} {cs : Nat → ClassId} {N : Nat} {ρ : sS} {xs : va_W} {A : Nat → Prop} {H0 H H1 : Heap} {locs locs1 : List Loc} (hw : mH D a cs N A H0 ρ xs H locs) (hk : ∀ q : Nat, q < H.size → ¬ H.size ≤ q → H1[q]? = H[q]?) (hS : va_S A H0 H1 locs1) : mH D a cs N A H0 ρ xs H1 locs1 :=
  ⟨hw.1.kept (fun k q hq => hk q.1 (hw.1 k q hq).lt (Nat.not_le.mpr (hw.1 k q hq).lt)), hw.2.1, hS⟩
