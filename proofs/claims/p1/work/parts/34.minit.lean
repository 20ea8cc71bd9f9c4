/-! The list's constructors, the reference's own, what was thrown. -/
theorem mJa_l : Cond.methodLink RJxa1e45 1 objectInit ∈ wsJxa1e45_init_da8c8 := by decide +kernel
theorem mJa_i : Cond.instanceMethod objectInit ∈ wsJxa1e45_init_da8c8 := by decide +kernel
theorem mJa_c : Cond.code objectInit ⟨#[0xb1]⟩ 1 none ∈ wsJxa1e45_init_da8c8 := by decide +kernel
set_option maxHeartbeats 4000000 in
set_option maxRecDepth 100000 in
theorem zJa_init (l : Launch) (h0 sz : Nat) : Met l yJxa1e45_init_da8c8 wsJxa1e45_init_da8c8 ({ frames := 1, cells := 0, slots := 0, locals := 12 }) (va_Pc [.ref h0] (fun U => U.heap.size = sz)) (va_Qv (fun (_ : Unit) => True) (fun _ _ => True) (fun q => sz ≤ q)) 0 0 (fun q => sz ≤ q) := by
  refine Met.ofW (cc := cJxa1e45_init_da8c8) (maxL := 1) (ret := none) (by decide) rfl ?_
  intro p e s m args below meth c s₁ B hml hv
  obtain ⟨rfl, hsz⟩ := hv
  subst hsz
  have hS : va_S (fun q => s.heap.size ≤ q) s.heap s.heap [] := va_S.rf
  have hx := B.exec
  have hb := B.bytes
  have hr := B.returns
  have hts := atoms_spec (ws := wsJxa1e45_init_da8c8) B.pre
  have hown : s.vm.findClass RJxa1e45 = some m.cls := findClass_of_methodNamed B.named
  have hlocks := B.notSynchronized
  have hl := lv_entry ([.ref h0]) (n := 1) (Nat.le_of_ble_eq_true rfl)
  rw [lg_entry_eq]
  generalize (lg_sl ([.ref h0]) ++ List.replicate (1 - (lg_sl ([.ref h0])).length) Slot.unset).toArray = ls at hl ⊢
  have hl : lv_has ls 1 [(0, .ref h0)] := hl
  refine lv_aload_n hx hb dJxa1e45_init_da8c8_0 rfl (lv_at hl 0 rfl) ?_
  refine W.objInit hx hb hown (hts _ mJa_l) (hts _ mJa_i) (hts _ mJa_c) rfl (by rw [hml]; exact hl.1) rfl dJxa1e45_init_da8c8_1 (Nat.le_of_ble_eq_true rfl) (Nat.le_of_ble_eq_true rfl) ?_
  refine W.eq (g2 := F0 m 4 ls []) rfl ?_
  exact W.vret hx hb hr (fun t ht hW => ⟨⟨(), rfl, trivial, trivial⟩, hS.F ht⟩) hS.2.2 dJxa1e45_init_da8c8_4 hlocks
theorem mJb_m : Cond.methodLink RJxc12de 1 yJxa1e45_init_da8c8 ∈ wsJxc12de_init_da8c8 := by decide +kernel
theorem mJb_y : Cond.instanceMethod yJxa1e45_init_da8c8 ∈ wsJxc12de_init_da8c8 := by decide +kernel
theorem mJb_z : Cond.initialized RJxa1e45 ∈ wsJxc12de_init_da8c8 := by decide +kernel
theorem mJb_f : Cond.fieldLink RJxc12de 7 "java/util/AbstractList" "modCount" "I" ∈ wsJxc12de_init_da8c8 := by decide +kernel
theorem iJb_L : ∀ w ∈ wsJx4a65c0, w ∈ wsJxc12de_init_da8c8 := by decide +kernel
abbrev mL0 (h0 : Nat) : va_W := [(h0, .inr (kJL, [.int 0, .null, .int 0]))]
set_option maxHeartbeats 4000000 in
set_option maxRecDepth 100000 in
theorem zJb_init (l : Launch) (D : va_G) (h0 sz : Nat) : Met l yJxc12de_init_da8c8 wsJxc12de_init_da8c8 ({ frames := 2, cells := 0, slots := 0, locals := 32 }) (va_Pc [.ref h0] (fun U => U.heap.size = sz ∧ va_P D vwCl (mL0 h0) U.heap ∧ va_K D vwCl [] U ∧ va_D (fun _ => True) (mL0 h0))) (va_Qv (fun (_ : Unit) => True) (fun _ t => va_P D vwCl (mL0 h0) t.heap) (va_A (mL0 h0) sz)) 0 0 (va_A (mL0 h0) sz) := by
  refine Met.ofW (cc := cJxc12de_init_da8c8) (maxL := 1) (ret := none) (by decide) rfl ?_
  intro p e s m args below meth c s₁ B hml hv
  obtain ⟨rfl, hsz, hP, hK, hD0⟩ := hv
  subst hsz
  have hD := hD0.self (sz := s.heap.size)
  have hS : va_S (va_A (mL0 h0) s.heap.size) s.heap s.heap [] := va_S.rf
  have hx := B.exec
  have hb := B.bytes
  have hr := B.returns
  have hts := atoms_spec (ws := wsJxc12de_init_da8c8) B.pre
  have hown : s.vm.findClass RJxc12de = some m.cls := findClass_of_methodNamed B.named
  have hlocks := B.notSynchronized
  have hl := lv_entry ([.ref h0]) (n := 1) (Nat.le_of_ble_eq_true rfl)
  rw [lg_entry_eq]
  generalize (lg_sl ([.ref h0]) ++ List.replicate (1 - (lg_sl ([.ref h0])).length) Slot.unset).toArray = ls at hl ⊢
  have hl : lv_has ls 1 [(0, .ref h0)] := hl
  refine lv_aload_n hx hb dJxc12de_init_da8c8_0 rfl (lv_at hl 0 rfl) ?_
  refine va_callv (va_runI (As := []) (rest := []) ⟨hx, hb, hml, hown, hts⟩ (zJa_init l h0 s.heap.size) (cwI 0 hts gJxc12de_init_da8c8_Jxa1e45_init_da8c8 rfl rfl rfl (hts _ mJb_z) (hts _ mJb_m) (hts _ mJb_y) rfl (by decide +kernel) ⟨Nat.le_of_ble_eq_true rfl, Nat.le_of_ble_eq_true rfl⟩) ⟨fun v U g mk z => ⟨z.1, z.2⟩, fun U hU hW => ⟨rfl, by show U.heap.size = s.heap.size; rw [hU]⟩⟩ rfl rfl hl.1 rfl (lv_room (Nat.le_of_ble_eq_true rfl)) dJxc12de_init_da8c8_1 ⟨Nat.le_of_ble_eq_true rfl, Nat.le_of_ble_eq_true rfl⟩) hS (fun q h1 h2 => absurd h1 (Nat.not_lt.mpr h2)) (fun q h => Or.inr h) (fun _ t H1 locs ht hvm _ _ hz1 hk1 hS => ?_)
  have hP : va_P D vwCl (mL0 h0) H1 := hP.kept (fun k q hq => hk1 q.1 (hP k q hq).lt (Nat.not_le.mpr (hP k q hq).lt))
  refine lv_aload_n hx hb dJxc12de_init_da8c8_4 rfl (lv_at hl 0 rfl) ?_
  refine lv_iconst (v := 0) hx hb dJxc12de_init_da8c8_5 (by decide) ?_
  refine va_put (D := D) (ci := kJL) (v := .int 0) (ty := .int) (C := RJx4a65c) (T := TJx4a65c) (N := 3) hx hb hts iJb_L tyJx4a65c tyJx4a65c_ok nmJx4a65c hown hK hP hD hS 0 rfl kcJL 0 (by decide) (hts _ mJb_f) (fun _ h9 => h9) rfl (by decide +kernel) rfl rfl (Nat.le_of_ble_eq_true rfl) dJxc12de_init_da8c8_6 (fun H locs hP hD hS => ?_)
  exact W.vret hx hb hr (fun t ht hW => ⟨⟨(), rfl, trivial, by show va_P D vwCl (mL0 h0) t.heap; rw [ht]; exact hP⟩, hS.F ht⟩) hS.2.2 dJxc12de_init_da8c8_9 hlocks
theorem mJc_m : Cond.methodLink RJx4a65c 1 yJxc12de_init_da8c8 ∈ wsJx4a65c_init_da8c8 := by decide +kernel
theorem mJc_y : Cond.instanceMethod yJxc12de_init_da8c8 ∈ wsJx4a65c_init_da8c8 := by decide +kernel
theorem mJc_z : Cond.initialized RJxc12de ∈ wsJx4a65c_init_da8c8 := by decide +kernel
theorem mJc_s : Cond.fieldLink RJx4a65c 39 "java/util/ArrayList" "DEFAULTCAPACITY_EMPTY_ELEMENTDATA" "[Ljava/lang/Object;" ∈ wsJx4a65c_init_da8c8 := by decide +kernel
theorem mJc_e : Cond.fieldLink RJx4a65c 9 "java/util/ArrayList" "elementData" "[Ljava/lang/Object;" ∈ wsJx4a65c_init_da8c8 := by decide +kernel
theorem iJc_L : ∀ w ∈ wsJx4a65c0, w ∈ wsJx4a65c_init_da8c8 := by decide +kernel
set_option maxHeartbeats 4000000 in
set_option maxRecDepth 100000 in
theorem zJL_init (l : Launch) (D : va_G) (h0 ed sz : Nat) : Met l yJx4a65c_init_da8c8 wsJx4a65c_init_da8c8 ({ frames := 3, cells := 0, slots := 0, locals := 52 }) (va_Pc [.ref h0] (fun U => U.heap.size = sz ∧ va_P D vwCl (mL0 h0) U.heap ∧ va_K D vwCl [] U ∧ va_D (fun _ => True) (mL0 h0) ∧ mEd ed (va_A (mL0 h0) sz) U U.heap)) (va_Qv (fun (_ : Unit) => True) (fun _ t => va_P D vwCl (mL1 h0 ed (fun _ => 0)) t.heap ∧ va_D (va_A (mL0 h0) sz) (mL1 h0 ed (fun _ => 0))) (va_A (mL0 h0) sz)) 0 0 (va_A (mL0 h0) sz) := by
  refine Met.ofW (cc := cJx4a65c_init_da8c8) (maxL := 1) (ret := none) (by decide) rfl ?_
  intro p e s m args below meth c s₁ B hml hv
  obtain ⟨rfl, hsz, hP, hK, hD0, hE⟩ := hv
  subst hsz
  have hD := hD0.self (sz := s.heap.size)
  have hS : va_S (va_A (mL0 h0) s.heap.size) s.heap s.heap [] := va_S.rf
  have hx := B.exec
  have hb := B.bytes
  have hr := B.returns
  have hts := atoms_spec (ws := wsJx4a65c_init_da8c8) B.pre
  have hown : s.vm.findClass RJx4a65c = some m.cls := findClass_of_methodNamed B.named
  have hlocks := B.notSynchronized
  have hl := lv_entry ([.ref h0]) (n := 1) (Nat.le_of_ble_eq_true rfl)
  rw [lg_entry_eq]
  generalize (lg_sl ([.ref h0]) ++ List.replicate (1 - (lg_sl ([.ref h0])).length) Slot.unset).toArray = ls at hl ⊢
  have hl : lv_has ls 1 [(0, .ref h0)] := hl
  refine lv_aload_n hx hb dJx4a65c_init_da8c8_0 rfl (lv_at hl 0 rfl) ?_
  refine va_callv (va_runI (As := []) (rest := []) ⟨hx, hb, hml, hown, hts⟩ (zJb_init l D h0 s.heap.size) (cwI 0 hts gJx4a65c_init_da8c8_Jxc12de_init_da8c8 rfl rfl rfl (hts _ mJc_z) (hts _ mJc_m) (hts _ mJc_y) rfl (by decide +kernel) ⟨Nat.le_of_ble_eq_true rfl, Nat.le_of_ble_eq_true rfl⟩) ⟨fun v U g mk z => by obtain ⟨z0, z1, zP, zK, zD⟩ := z; exact ⟨z0, z1, zP, va_K.moved (u := U) (U := U.calling g mk v) (Vm.Alike.refl U.vm) zK, zD⟩, fun U hU hW => ⟨rfl, by rw [hU], by rw [hU]; exact hP, va_K.moved hW.alike hK, hD0⟩⟩ rfl rfl hl.1 rfl (lv_room (Nat.le_of_ble_eq_true rfl)) dJx4a65c_init_da8c8_1 ⟨Nat.le_of_ble_eq_true rfl, Nat.le_of_ble_eq_true rfl⟩) hS (fun q _ h => h) (fun q h => h) (fun _ t H1 locs ht hvm _ hB hz1 hk1 hS => ?_)
  rw [ht] at hB
  have hP : va_P D vwCl (mL0 h0) H1 := hB
  refine lv_aload_n hx hb dJx4a65c_init_da8c8_4 rfl (lv_at hl 0 rfl) ?_
  refine va_gets hx hb hE.1 hS hown (hts _ mJc_s) (fun _ h9 => h9) dJx4a65c_init_da8c8_5 ?_
  refine va_put (D := D) (ci := kJL) (v := .ref ed) (ty := .array (.object "java/lang/Object")) (C := RJx4a65c) (T := TJx4a65c) (N := 3) hx hb hts iJc_L tyJx4a65c tyJx4a65c_ok nmJx4a65c hown hK hP hD hS 0 rfl kcJL 1 (by decide) (hts _ mJc_e) (fun _ h9 => h9) rfl (by decide +kernel) rfl rfl (Nat.le_of_ble_eq_true rfl) dJx4a65c_init_da8c8_8 (fun H locs hP hD hS => ?_)
  exact W.vret hx hb hr (fun t ht hW => ⟨⟨(), rfl, trivial, by show va_P D vwCl (mL1 h0 ed (fun _ => 0)) t.heap; rw [ht]; exact hP, hD⟩, hS.F ht⟩) hS.2.2 dJx4a65c_init_da8c8_11 hlocks
theorem mX6_th : Cond.fieldLink RX6 31 "SaltRowModel" "thrown" "I" ∈ wsX6_thrown := by decide +kernel
theorem iX6_th : ∀ w ∈ wsX60, w ∈ wsX6_thrown := by decide +kernel
set_option maxHeartbeats 4000000 in
set_option maxRecDepth 100000 in
/-- thrown(), of the object alone -/
theorem zX6_thr1 (l : Launch) (D : va_G) (h0 x y sz : Nat) (g : Nat → Int32) : Met l yX6_thrown wsX6_thrown ({ frames := 0, cells := 0, slots := 0, locals := 0 }) (va_Pc [.ref h0] (fun U => U.heap.size = sz ∧ va_P D vwCl [(h0, .inr (kX6, mOv x y g))] U.heap ∧ va_K D vwCl [] U)) (va_Qi (fun r (_ : Unit) => r = g 0) (fun _ _ => True) (fun q => sz ≤ q)) 0 0 (fun q => sz ≤ q) := by
  refine Met.ofW (cc := cX6_thrown) (maxL := 1) (ret := (some .int)) (by decide) rfl ?_
  intro p e s m args below meth c s₁ B hml hv
  obtain ⟨rfl, hsz, hP, hK⟩ := hv
  subst hsz
  have hS : va_S (fun q => s.heap.size ≤ q) s.heap s.heap [] := va_S.rf
  have hx := B.exec
  have hb := B.bytes
  have hr := B.returns
  have hts := atoms_spec (ws := wsX6_thrown) B.pre
  have hown : s.vm.findClass RX6 = some m.cls := findClass_of_methodNamed B.named
  have hlocks := B.notSynchronized
  have hl := lv_entry ([.ref h0]) (n := 1) (Nat.le_of_ble_eq_true rfl)
  rw [lg_entry_eq]
  generalize (lg_sl ([.ref h0]) ++ List.replicate (1 - (lg_sl ([.ref h0])).length) Slot.unset).toArray = ls at hl ⊢
  have hl : lv_has ls 1 [(0, .ref h0)] := hl
  refine lv_aload_n hx hb dX6_thrown_0 rfl (lv_at hl 0 rfl) ?_
  refine va_get (D := D) (ci := kX6) (v := .int (g 0)) (C := RX6) (T := TX6) (N := 11) hx hb hts iX6_th hown hK hP 0 rfl kcX6 0 (by decide) (hts _ mX6_th) (fun _ h9 => h9) rfl dX6_thrown_1 ?_
  exact W.iret hx hb hr (fun t ht hW => ⟨⟨_, (), rfl, rfl, trivial⟩, hS.F ht⟩) hS.2.2 dX6_thrown_4 hlocks
set_option maxHeartbeats 4000000 in
set_option maxRecDepth 100000 in
/-- size(), of the list alone -/
theorem zJL_size1 (l : Launch) (D : va_G) (li y sz : Nat) (x z : Int32) : Met l yJx4a65c_size_8abf5 wsJx4a65c_size_8abf5 ({ frames := 0, cells := 0, slots := 0, locals := 0 }) (va_Pc [.ref li] (fun U => U.heap.size = sz ∧ va_P D vwCl [(li, .inr (kJL, [.int x, .ref y, .int z]))] U.heap ∧ va_K D vwCl [] U)) (va_Qi (fun r (_ : Unit) => r = z) (fun _ _ => True) (fun q => sz ≤ q)) 0 0 (fun q => sz ≤ q) := by
  refine Met.ofW (cc := cJx4a65c_size_8abf5) (maxL := 1) (ret := (some .int)) (by decide) rfl ?_
  intro p e s m args below meth c s₁ B hml hv
  obtain ⟨rfl, hsz, hP, hK⟩ := hv
  subst hsz
  have hS : va_S (fun q => s.heap.size ≤ q) s.heap s.heap [] := va_S.rf
  have hx := B.exec
  have hb := B.bytes
  have hr := B.returns
  have hts := atoms_spec (ws := wsJx4a65c_size_8abf5) B.pre
  have hown : s.vm.findClass RJx4a65c = some m.cls := findClass_of_methodNamed B.named
  have hlocks := B.notSynchronized
  have hl := lv_entry ([.ref li]) (n := 1) (Nat.le_of_ble_eq_true rfl)
  rw [lg_entry_eq]
  generalize (lg_sl ([.ref li]) ++ List.replicate (1 - (lg_sl ([.ref li])).length) Slot.unset).toArray = ls at hl ⊢
  have hl : lv_has ls 1 [(0, .ref li)] := hl
  refine lv_aload_n hx hb dJx4a65c_size_8abf5_0 rfl (lv_at hl 0 rfl) ?_
  refine va_get (D := D) (ci := kJL) (v := .int z) (C := RJx4a65c) (T := TJx4a65c) (N := 3) hx hb hts iJs_L hown hK hP 0 rfl kcJL 2 (by decide) (hts _ mJs_f) (fun _ h9 => h9) rfl dJx4a65c_size_8abf5_1 ?_
  exact W.iret hx hb hr (fun t ht hW => ⟨⟨_, (), rfl, rfl, trivial⟩, hS.F ht⟩) hS.2.2 dJx4a65c_size_8abf5_4 hlocks
theorem mX6i_l : Cond.methodLink RX6 9 objectInit ∈ wsX6_init := by decide +kernel
theorem mX6i_i : Cond.instanceMethod objectInit ∈ wsX6_init := by decide +kernel
theorem mX6i_c : Cond.code objectInit ⟨#[0xb1]⟩ 1 none ∈ wsX6_init := by decide +kernel
theorem mX6i_k5 : Cond.classLink RX6 15 RX5 ∈ wsX6_init := by decide +kernel
theorem mX6i_n5 : Cond.instantiable RX5 3 ∈ wsX6_init := by decide +kernel
theorem mX6i_z5 : Cond.initialized RX5 ∈ wsX6_init := by decide +kernel
theorem mX6i_m5 : Cond.methodLink RX6 17 yX5_init ∈ wsX6_init := by decide +kernel
theorem mX6i_y5 : Cond.instanceMethod yX5_init ∈ wsX6_init := by decide +kernel
theorem mX6i_f5 : Cond.fieldLink RX6 18 "SaltRowModel" "row" "LSaltRowModel$Row;" ∈ wsX6_init := by decide +kernel
theorem mX6i_kL : Cond.classLink RX6 24 RJx4a65c ∈ wsX6_init := by decide +kernel
theorem mX6i_nL : Cond.instantiable RJx4a65c 3 ∈ wsX6_init := by decide +kernel
theorem mX6i_zL : Cond.initialized RJx4a65c ∈ wsX6_init := by decide +kernel
theorem mX6i_mL : Cond.methodLink RX6 26 yJx4a65c_init_da8c8 ∈ wsX6_init := by decide +kernel
theorem mX6i_yL : Cond.instanceMethod yJx4a65c_init_da8c8 ∈ wsX6_init := by decide +kernel
theorem mX6i_fL : Cond.fieldLink RX6 27 "SaltRowModel" "families" "Ljava/util/ArrayList;" ∈ wsX6_init := by decide +kernel
theorem iX6i_X6 : ∀ w ∈ wsX60, w ∈ wsX6_init := by decide +kernel
theorem iX6i_X5 : ∀ w ∈ wsX50, w ∈ wsX6_init := by decide +kernel
theorem iX6i_L : ∀ w ∈ wsJx4a65c0, w ∈ wsX6_init := by decide +kernel
abbrev mO0 (h0 : Nat) : va_W := [(h0, .inr (kX6, [.int 0, .null, .null, .int 0, .int 0, .int 0, .int 0, .int 0, .int 0, .int 0, .int 0]))]
def mNewQ (D : va_G) (h0 ed sz : Nat) (cI : ClassId) : Array Value → State → Outcome → State → Prop := va_Qv (fun (u : (Nat → Nat) × (Nat → ClassId)) => u.1 10 = h0 ∧ u.1 12 = ed ∧ u.2 1 = cI) (fun u t => va_P D vwCl (mW 12 u.1 u.2 m_row0) t.heap ∧ va_K D vwCl (mT u.2) t ∧ va_D (va_A (mO0 h0) sz) (mW 12 u.1 u.2 m_row0)) (va_A (mO0 h0) sz)
theorem mW_new {D : va_G} {A : Nat → Prop} {H : Heap} {h0 r q li ed x0 x1 x2 x3 x4 x5 x6 x7 : Nat} {cP cI : ClassId} (hP : va_P D vwCl ([(h0, .inr (kX6, [.int 0, .ref r, .ref li, .int 0, .int 0, .int 0, .int 0, .int 0, .int 0, .int 0, .int 0])), (r, mRE q), (q, .inl (cP, sQl [x0, x1, x2, x3, x4, x5, x6, x7] 8)), (x0, mPE), (x1, mPE), (x2, mPE), (x3, mPE), (x4, mPE), (x5, mPE), (x6, mPE), (x7, mPE), (li, .inr (kJL, mLv ed (fun _ => 0)))]) H) (hD : va_D A ([(h0, .inr (kX6, [.int 0, .ref r, .ref li, .int 0, .int 0, .int 0, .int 0, .int 0, .int 0, .int 0, .int 0])), (r, mRE q), (q, .inl (cP, sQl [x0, x1, x2, x3, x4, x5, x6, x7] 8)), (x0, mPE), (x1, mPE), (x2, mPE), (x3, mPE), (x4, mPE), (x5, mPE), (x6, mPE), (x7, mPE), (li, .inr (kJL, mLv ed (fun _ => 0)))])) :
    ∃ a : Nat → Nat, a 10 = h0 ∧ a 12 = ed ∧ va_P D vwCl (mW 12 a (fun k => if k = 0 then cP else cI) m_row0) H ∧ va_D A (mW 12 a (fun k => if k = 0 then cP else cI) m_row0) := by
  obtain ⟨a, ha⟩ : ∃ a : Nat → Nat, a = fun i => [r, q, x0, x1, x2, x3, x4, x5, x6, x7, h0, li, ed].getD i 0 := ⟨_, rfl⟩
  have hP2 := hP.sub (ws' := _) [1, 2, 3, 4, 5, 6, 7, 8, 9, 10, 0, 11] rfl
  have hD2 := hD.sub (ws' := [(r, mRE q), (q, .inl (cP, sQl [x0, x1, x2, x3, x4, x5, x6, x7] 8)), (x0, mPE), (x1, mPE), (x2, mPE), (x3, mPE), (x4, mPE), (x5, mPE), (x6, mPE), (x7, mPE), (h0, .inr (kX6, [.int 0, .ref r, .ref li, .int 0, .int 0, .int 0, .int 0, .int 0, .int 0, .int 0, .int 0])), (li, .inr (kJL, mLv ed (fun _ => 0)))]) [1, 2, 3, 4, 5, 6, 7, 8, 9, 10, 0, 11] (by decide) rfl
  refine ⟨a, by rw [ha]; rfl, by rw [ha]; rfl, ?_, va_D_fst hD2 (by rw [ha]; rfl)⟩
  intro k r2 hk
  obtain ⟨hi, rfl⟩ := mW_inv hk
  rw [ha]
  match k, hi with
  | 1, _ => exact (hP2 1 _ rfl).trans (congrArg some (sQ_cell (fun j hj => by rcases (show j = 0 ∨ j = 1 ∨ j = 2 ∨ j = 3 ∨ j = 4 ∨ j = 5 ∨ j = 6 ∨ j = 7 by omega) with rfl | rfl | rfl | rfl | rfl | rfl | rfl | rfl <;> rfl)))
  | 0, _ => exact hP2 0 _ rfl
  | 2, _ => exact hP2 2 _ rfl
  | 3, _ => exact hP2 3 _ rfl
  | 4, _ => exact hP2 4 _ rfl
  | 5, _ => exact hP2 5 _ rfl
  | 6, _ => exact hP2 6 _ rfl
  | 7, _ => exact hP2 7 _ rfl
  | 8, _ => exact hP2 8 _ rfl
  | 9, _ => exact hP2 9 _ rfl
  | 10, _ => exact hP2 10 _ rfl
  | 11, _ => exact hP2 11 _ rfl
set_option maxHeartbeats 4000000 in
set_option maxRecDepth 100000 in
/-- SaltRowModel(): eleven cells come -/
theorem zX6_init (l : Launch) (D : va_G) (h0 ed sz : Nat) (cI : ClassId) : Met l yX6_init wsX6_init ({ frames := 4, cells := 11, slots := 102, locals := 80 }) (va_Pc [.ref h0] (fun U => U.heap.size = sz ∧ va_P D vwCl (mO0 h0) U.heap ∧ va_K D vwCl [(cI, .int)] U ∧ va_D (fun _ => True) (mO0 h0) ∧ mN U ∧ mEd ed (va_A (mO0 h0) sz) U U.heap)) (mNewQ D h0 ed sz cI) 11 102 (va_A (mO0 h0) sz) := by
  refine Met.ofW (cc := cX6_init) (maxL := 1) (ret := none) (by decide) rfl ?_
  intro p e s m args below meth c s₁ B hml hv
  obtain ⟨rfl, hsz, hP, hK, hD0, hN2, hE⟩ := hv
  have hin : meth.name = "<init>" := (name_of_methodNamed B.named B.method).1
  subst hsz
  have hD := hD0.self (sz := s.heap.size)
  have hA : ∀ q : Nat, s.heap.size ≤ q → (va_A (mO0 h0) s.heap.size) q := fun q h => Or.inr h
  have hS : va_S (va_A (mO0 h0) s.heap.size) s.heap s.heap [] := va_S.rf
  have hx := B.exec
  have hb := B.bytes
  have hr := B.returns
  have hts := atoms_spec (ws := wsX6_init) B.pre
  have hown : s.vm.findClass RX6 = some m.cls := findClass_of_methodNamed B.named
  have hlocks := B.notSynchronized
  have hl := lv_entry ([.ref h0]) (n := 1) (Nat.le_of_ble_eq_true rfl)
  rw [lg_entry_eq]
  generalize (lg_sl ([.ref h0]) ++ List.replicate (1 - (lg_sl ([.ref h0])).length) Slot.unset).toArray = ls at hl ⊢
  have hl : lv_has ls 1 [(0, .ref h0)] := hl
  refine lv_aload_n hx hb dX6_init_0 rfl (lv_at hl 0 rfl) ?_
  refine W.objInit hx hb hown (hts _ mX6i_l) (hts _ mX6i_i) (hts _ mX6i_c) rfl (by rw [hml]; exact hl.1) rfl dX6_init_1 (Nat.le_of_ble_eq_true rfl) (Nat.le_of_ble_eq_true rfl) ?_
  refine W.eq (g2 := F0 m 4 ls []) rfl ?_
  refine lv_aload_n hx hb dX6_init_4 rfl (lv_at hl 0 rfl) ?_
  refine va_new (ci := kX5) (fs := [.null, .int 0, .int 0]) (C := RX5) (T := TX5) (N := 3) hx hb hts iX6i_X5 tyX5 tyX5_ok hown (hts _ mX6i_k5) (hts _ mX6i_n5) (hts _ mX6i_z5) hK hP hD hS hA kcX5 (fun j hj => by rcases (show j = 0 ∨ j = 1 ∨ j = 2 by omega) with rfl | rfl | rfl <;> rfl) (Nat.le_of_ble_eq_true rfl) (Nat.le_of_ble_eq_true rfl) dX6_init_5 (fun r H hP hD hS => ?_)
  refine lv_dup hx hb dX6_init_8 rfl ?_
  have hP : va_P D vwCl [(h0, .inr (kX6, [.int 0, .null, .null, .int 0, .int 0, .int 0, .int 0, .int 0, .int 0, .int 0, .int 0])), (r, .inr (kX5, [.null, .int 0, .int 0]))] H := hP
  have hD : va_D (va_A (mO0 h0) s.heap.size) [(h0, .inr (kX6, [.int 0, .null, .null, .int 0, .int 0, .int 0, .int 0, .int 0, .int 0, .int 0, .int 0])), (r, .inr (kX5, [.null, .int 0, .int 0]))] := hD
  have hPc := hP.sub (ws' := mR0 r) [1] rfl
  have hDc := hD.sub (ws' := mR0 r) [1] (by decide) rfl
  have hFc := va_free (wc := mR0 r) hD hS hA [1] rfl
  refine va_callv (va_runI (As := []) (rest := [.ref r, .ref h0]) ⟨hx, hb, hml, hown, hts⟩ (zX5_init l D r H.size) (cwI 0 hts gX6_init_X5_init rfl rfl rfl (hts _ mX6i_z5) (hts _ mX6i_m5) (hts _ mX6i_y5) rfl (by decide +kernel) ⟨Nat.le_of_ble_eq_true rfl, Nat.le_of_ble_eq_true rfl⟩) ⟨fun v U g mk z => by obtain ⟨z0, z1, zP, zK, zD, zN⟩ := z; exact ⟨z0, z1, zP, va_K.moved (u := U) (U := U.calling g mk v) (Vm.Alike.refl U.vm) zK, zD, mN_same (u := U) (U := U.calling g mk v) rfl zN⟩, fun U hU hW => ⟨rfl, by rw [hU], by rw [hU]; exact hPc, va_K.moved hW.alike (hK.sub (tys' := []) [] rfl), hDc.weaken (fun _ _ _ _ => trivial), mN_warm hW hN2⟩⟩ rfl rfl hl.1 rfl (lv_room (Nat.le_of_ble_eq_true rfl)) dX6_init_9 ⟨Nat.le_of_ble_eq_true rfl, Nat.le_of_ble_eq_true rfl⟩) hS (fun q _ h => hFc q h) hFc (fun u t H1 locs ht hvm hu hB hz1 hk1 hS => ?_)
  obtain ⟨q, cP, L⟩ := u
  obtain ⟨hP1, hK1, hD1⟩ := hB
  rw [ht] at hP1
  have hK1 := va_K.moved hvm.symm hK1
  obtain ⟨x0, x1, x2, x3, x4, x5, x6, x7, hLe⟩ := len8 (show L.length = 8 from hu)
  rw [hLe] at hP1 hD1
  obtain ⟨hP, hD⟩ := va_join (wr := [(h0, .inr (kX6, [.int 0, .null, .null, .int 0, .int 0, .int 0, .int 0, .int 0, .int 0, .int 0, .int 0]))]) (w1 := mRW r q cP [x0, x1, x2, x3, x4, x5, x6, x7]) hP hD [1] [0] rfl rfl (by decide) (by decide) hk1 hFc hP1 hD1
  have hK2 := hK1.app hK
  generalize H1 = H at hP hS ⊢
  have hP : va_P D vwCl ([(h0, .inr (kX6, [.int 0, .null, .null, .int 0, .int 0, .int 0, .int 0, .int 0, .int 0, .int 0, .int 0])), (r, mRE q), (q, .inl (cP, sQl [x0, x1, x2, x3, x4, x5, x6, x7] 8)), (x0, mPE), (x1, mPE), (x2, mPE), (x3, mPE), (x4, mPE), (x5, mPE), (x6, mPE), (x7, mPE)]) H := hP
  have hD : va_D (va_A (mO0 h0) s.heap.size) ([(h0, .inr (kX6, [.int 0, .null, .null, .int 0, .int 0, .int 0, .int 0, .int 0, .int 0, .int 0, .int 0])), (r, mRE q), (q, .inl (cP, sQl [x0, x1, x2, x3, x4, x5, x6, x7] 8)), (x0, mPE), (x1, mPE), (x2, mPE), (x3, mPE), (x4, mPE), (x5, mPE), (x6, mPE), (x7, mPE)]) := hD
  refine va_putF (D := D) (ci := kX6) (v := .ref r) (ty := .object "SaltRowModel$Row") (C := RX6) (T := TX6) (N := 11) hx hb hts iX6i_X6 tyX6 tyX6_ok nmX6 hown hK hP hD hS 0 rfl kcX6 1 (by decide) (hts _ mX6i_f5) (fun _ h9 => h9) rfl hin rfl (by decide +kernel) rfl rfl (Nat.le_of_ble_eq_true rfl) dX6_init_12 (fun H locs hP hD hS => ?_)
  refine lv_aload_n hx hb dX6_init_15 rfl (lv_at hl 0 rfl) ?_
  refine va_new (ci := kJL) (fs := [.int 0, .null, .int 0]) (C := RJx4a65c) (T := TJx4a65c) (N := 3) hx hb hts iX6i_L tyJx4a65c tyJx4a65c_ok hown (hts _ mX6i_kL) (hts _ mX6i_nL) (hts _ mX6i_zL) hK hP hD hS hA kcJL (fun j hj => by rcases (show j = 0 ∨ j = 1 ∨ j = 2 by omega) with rfl | rfl | rfl <;> rfl) (Nat.le_of_ble_eq_true rfl) (Nat.le_of_ble_eq_true rfl) dX6_init_16 (fun li H hP hD hS => ?_)
  refine lv_dup hx hb dX6_init_19 rfl ?_
  have hP : va_P D vwCl ([(h0, .inr (kX6, [.int 0, .ref r, .null, .int 0, .int 0, .int 0, .int 0, .int 0, .int 0, .int 0, .int 0])), (r, mRE q), (q, .inl (cP, sQl [x0, x1, x2, x3, x4, x5, x6, x7] 8)), (x0, mPE), (x1, mPE), (x2, mPE), (x3, mPE), (x4, mPE), (x5, mPE), (x6, mPE), (x7, mPE), (li, .inr (kJL, [.int 0, .null, .int 0]))]) H := hP
  have hD : va_D (va_A (mO0 h0) s.heap.size) ([(h0, .inr (kX6, [.int 0, .ref r, .null, .int 0, .int 0, .int 0, .int 0, .int 0, .int 0, .int 0, .int 0])), (r, mRE q), (q, .inl (cP, sQl [x0, x1, x2, x3, x4, x5, x6, x7] 8)), (x0, mPE), (x1, mPE), (x2, mPE), (x3, mPE), (x4, mPE), (x5, mPE), (x6, mPE), (x7, mPE), (li, .inr (kJL, [.int 0, .null, .int 0]))]) := hD
  have hPc := hP.sub (ws' := mL0 li) [11] rfl
  have hDc := hD.sub (ws' := mL0 li) [11] (by decide) rfl
  have hFc := va_free (wc := mL0 li) hD hS hA [11] rfl
  have hE2 := hE.kept (H1 := H) (fun a h1 h2 => hS.2.1 a h1 h2)
  refine va_callv (va_runI (As := []) (rest := [.ref li, .ref h0]) ⟨hx, hb, hml, hown, hts⟩ (zJL_init l D li ed H.size) (cwI 0 hts gX6_init_Jx4a65c_init_da8c8 rfl rfl rfl (hts _ mX6i_zL) (hts _ mX6i_mL) (hts _ mX6i_yL) rfl (by decide +kernel) ⟨Nat.le_of_ble_eq_true rfl, Nat.le_of_ble_eq_true rfl⟩) ⟨fun v U g mk z => by obtain ⟨z0, z1, zP, zK, zD, zE⟩ := z; exact ⟨z0, z1, zP, va_K.moved (u := U) (U := U.calling g mk v) (Vm.Alike.refl U.vm) zK, zD, mEd.moved (u := U) (U := U.calling g mk v) (Vm.Alike.refl U.vm) zE⟩, fun U hU hW => ⟨rfl, by rw [hU], by rw [hU]; exact hPc, va_K.moved hW.alike (hK.sub (tys' := []) [] rfl), hDc.weaken (fun _ _ _ _ => trivial), by rw [hU]; exact (mEd.moved hW.alike hE2).narrow hFc⟩⟩ rfl rfl hl.1 rfl (lv_room (Nat.le_of_ble_eq_true rfl)) dX6_init_20 ⟨Nat.le_of_ble_eq_true rfl, Nat.le_of_ble_eq_true rfl⟩) hS (fun q _ h => hFc q h) hFc (fun u t H1 locs ht hvm hu hB hz1 hk1 hS => ?_)
  obtain ⟨hP1, hD1⟩ := hB
  rw [ht] at hP1
  obtain ⟨hP, hD⟩ := va_join (wr := [(h0, .inr (kX6, [.int 0, .ref r, .null, .int 0, .int 0, .int 0, .int 0, .int 0, .int 0, .int 0, .int 0])), (r, mRE q), (q, .inl (cP, sQl [x0, x1, x2, x3, x4, x5, x6, x7] 8)), (x0, mPE), (x1, mPE), (x2, mPE), (x3, mPE), (x4, mPE), (x5, mPE), (x6, mPE), (x7, mPE)]) (w1 := mL1 li ed (fun _ => 0)) hP hD [11] [0, 1, 2, 3, 4, 5, 6, 7, 8, 9, 10] rfl rfl (by decide) (by decide) hk1 hFc hP1 hD1
  generalize H1 = H at hP hS ⊢
  refine va_putF (D := D) (ci := kX6) (v := .ref li) (ty := .object "java/util/ArrayList") (C := RX6) (T := TX6) (N := 11) hx hb hts iX6i_X6 tyX6 tyX6_ok nmX6 hown hK hP hD hS 0 rfl kcX6 2 (by decide) (hts _ mX6i_fL) (fun _ h9 => h9) rfl hin rfl (by decide +kernel) rfl rfl (Nat.le_of_ble_eq_true rfl) dX6_init_23 (fun H locs hP hD hS => ?_)
  obtain ⟨a, ha, ha2, hP, hD⟩ := mW_new (ed := ed) (cP := cP) (cI := cI) hP hD
  exact W.vret hx hb hr (fun t ht hW => ⟨⟨(a, fun k => if k = 0 then cP else cI), rfl, ⟨ha, ha2, rfl⟩, by rw [ht]; exact hP, va_K.moved hW.alike hK2, hD⟩, hS.F ht⟩) hS.2.2 dX6_init_26 hlocks
