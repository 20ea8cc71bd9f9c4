theorem mX0_read_0_0 : (Cond.fieldLink RX0 15 "SaltRow$Family" "salt" "I") ∈ wsX0_read := by decide +kernel
theorem iX0_read_X0_0 : ∀ w ∈ wsX00, w ∈ wsX0_read := by decide +kernel
set_option maxHeartbeats 4000000 in
set_option maxRecDepth 100000 in
theorem zX0_read_0 (l : Launch) (D : va_G) (a : Nat → Nat) (cs : Nat → ClassId) (σ : sS) (j : Nat) (hj6 : j < 6) : sMi l yX0_read wsX0_read ({ frames := 2, cells := 0, slots := 0, locals := 46 }) D a cs [.ref (a (22 + j)), .int (nI 0)] σ (f_X0_read (σ (22 + j)) 0) σ := by
  intro sz
  refine Met.ofW (cc := cX0_read) (maxL := 2) (ret := (some .int)) (by decide) rfl ?_
  intro p e s m args below meth c s₁ B hml hv
  obtain ⟨rfl, hsz, hv2⟩ := hv
  have hv3 : sB D a cs σ sz s := ⟨hsz, hv2⟩
  subst hsz
  have hw := sH_start hv3
  obtain ⟨-, -, hK, -, hN⟩ := hv3
  have hx := B.exec
  have hb := B.bytes
  have hr := B.returns
  have hts := atoms_spec (ws := wsX0_read) B.pre
  have hown : s.vm.findClass RX0 = some m.cls := findClass_of_methodNamed B.named
  have hlocks := B.notSynchronized
  have hA : ∀ q : Nat, s.heap.size ≤ q → sA a s.heap.size q := sA_new
  have hl := lv_entry ([.ref (a (22 + j)), .int (nI 0)]) (n := 2) (Nat.le_of_ble_eq_true rfl)
  rw [lg_entry_eq]
  generalize (lg_sl ([.ref (a (22 + j)), .int (nI 0)]) ++ List.replicate (2 - (lg_sl ([.ref (a (22 + j)), .int (nI 0)])).length) Slot.unset).toArray = ls at hl ⊢
  have hl : lv_has ls 2 [(0, .ref (a (22 + j))), (1, .int (nI 0))] := hl
  refine lv_iload_n hx hb dX0_read_0 rfl (lv_at hl 1 rfl) ?_
  refine lv_tableIn (tgt := 36) hx hb dX0_read_1 (by decide) (by decide) (off := 35) (by decide +kernel) (by decide) ?_
  refine lv_aload_n hx hb dX0_read_36 rfl (lv_at hl 0 rfl) ?_
  refine sg_f (j := j) hx hb hts iX0_read_X0_0 hown hK hw (by omega) 1 (by decide) (hts _ mX0_read_0_0) dX0_read_37 ?_
  exact se_i hx hb hr hlocks hw (by rfl) (by rfl) dX0_read_40
theorem mX0_read_0_1 : (Cond.fieldLink RX0 19 "SaltRow$Family" "dirt" "I") ∈ wsX0_read := by decide +kernel
theorem iX0_read_X0_1 : ∀ w ∈ wsX00, w ∈ wsX0_read := by decide +kernel
set_option maxHeartbeats 4000000 in
set_option maxRecDepth 100000 in
theorem zX0_read_1 (l : Launch) (D : va_G) (a : Nat → Nat) (cs : Nat → ClassId) (σ : sS) (j : Nat) (hj6 : j < 6) : sMi l yX0_read wsX0_read ({ frames := 2, cells := 0, slots := 0, locals := 46 }) D a cs [.ref (a (22 + j)), .int (nI 1)] σ (f_X0_read (σ (22 + j)) 1) σ := by
  intro sz
  refine Met.ofW (cc := cX0_read) (maxL := 2) (ret := (some .int)) (by decide) rfl ?_
  intro p e s m args below meth c s₁ B hml hv
  obtain ⟨rfl, hsz, hv2⟩ := hv
  have hv3 : sB D a cs σ sz s := ⟨hsz, hv2⟩
  subst hsz
  have hw := sH_start hv3
  obtain ⟨-, -, hK, -, hN⟩ := hv3
  have hx := B.exec
  have hb := B.bytes
  have hr := B.returns
  have hts := atoms_spec (ws := wsX0_read) B.pre
  have hown : s.vm.findClass RX0 = some m.cls := findClass_of_methodNamed B.named
  have hlocks := B.notSynchronized
  have hA : ∀ q : Nat, s.heap.size ≤ q → sA a s.heap.size q := sA_new
  have hl := lv_entry ([.ref (a (22 + j)), .int (nI 1)]) (n := 2) (Nat.le_of_ble_eq_true rfl)
  rw [lg_entry_eq]
  generalize (lg_sl ([.ref (a (22 + j)), .int (nI 1)]) ++ List.replicate (2 - (lg_sl ([.ref (a (22 + j)), .int (nI 1)])).length) Slot.unset).toArray = ls at hl ⊢
  have hl : lv_has ls 2 [(0, .ref (a (22 + j))), (1, .int (nI 1))] := hl
  refine lv_iload_n hx hb dX0_read_0 rfl (lv_at hl 1 rfl) ?_
  refine lv_tableIn (tgt := 41) hx hb dX0_read_1 (by decide) (by decide) (off := 40) (by decide +kernel) (by decide) ?_
  refine lv_aload_n hx hb dX0_read_41 rfl (lv_at hl 0 rfl) ?_
  refine sg_f (j := j) hx hb hts iX0_read_X0_1 hown hK hw (by omega) 2 (by decide) (hts _ mX0_read_0_1) dX0_read_42 ?_
  exact se_i hx hb hr hlocks hw (by rfl) (by rfl) dX0_read_45
theorem mX0_read_0_2 : (Cond.fieldLink RX0 15 "SaltRow$Family" "salt" "I") ∈ wsX0_read := by decide +kernel
theorem iX0_read_X0_2 : ∀ w ∈ wsX00, w ∈ wsX0_read := by decide +kernel
theorem mX0_read_2_2 : (Cond.fieldLink RX0 19 "SaltRow$Family" "dirt" "I") ∈ wsX0_read := by decide +kernel
theorem mX0_read_3_2 : (Cond.initialized RX3) ∈ wsX0_read := by decide +kernel
theorem mX0_read_4_2 : (Cond.static yX3_purity) ∈ wsX0_read := by decide +kernel
set_option maxHeartbeats 4000000 in
set_option maxRecDepth 100000 in
theorem zX0_read_2 (l : Launch) (D : va_G) (a : Nat → Nat) (cs : Nat → ClassId) (σ : sS) (j : Nat) (hj6 : j < 6) : sMi l yX0_read wsX0_read ({ frames := 2, cells := 0, slots := 0, locals := 46 }) D a cs [.ref (a (22 + j)), .int (nI 2)] σ (f_X0_read (σ (22 + j)) 2) σ := by
  intro sz
  refine Met.ofW (cc := cX0_read) (maxL := 2) (ret := (some .int)) (by decide) rfl ?_
  intro p e s m args below meth c s₁ B hml hv
  obtain ⟨rfl, hsz, hv2⟩ := hv
  have hv3 : sB D a cs σ sz s := ⟨hsz, hv2⟩
  subst hsz
  have hw := sH_start hv3
  obtain ⟨-, -, hK, -, hN⟩ := hv3
  have hx := B.exec
  have hb := B.bytes
  have hr := B.returns
  have hts := atoms_spec (ws := wsX0_read) B.pre
  have hown : s.vm.findClass RX0 = some m.cls := findClass_of_methodNamed B.named
  have hlocks := B.notSynchronized
  have hA : ∀ q : Nat, s.heap.size ≤ q → sA a s.heap.size q := sA_new
  have hl := lv_entry ([.ref (a (22 + j)), .int (nI 2)]) (n := 2) (Nat.le_of_ble_eq_true rfl)
  rw [lg_entry_eq]
  generalize (lg_sl ([.ref (a (22 + j)), .int (nI 2)]) ++ List.replicate (2 - (lg_sl ([.ref (a (22 + j)), .int (nI 2)])).length) Slot.unset).toArray = ls at hl ⊢
  have hl : lv_has ls 2 [(0, .ref (a (22 + j))), (1, .int (nI 2))] := hl
  refine lv_iload_n hx hb dX0_read_0 rfl (lv_at hl 1 rfl) ?_
  refine lv_tableIn (tgt := 46) hx hb dX0_read_1 (by decide) (by decide) (off := 45) (by decide +kernel) (by decide) ?_
  refine lv_aload_n hx hb dX0_read_46 rfl (lv_at hl 0 rfl) ?_
  refine sg_f (j := j) hx hb hts iX0_read_X0_2 hown hK hw (by omega) 1 (by decide) (hts _ mX0_read_0_2) dX0_read_47 ?_
  refine lv_aload_n hx hb dX0_read_50 rfl (lv_at hl 0 rfl) ?_
  refine sg_f (j := j) hx hb hts iX0_read_X0_2 hown hK hw (by omega) 2 (by decide) (hts _ mX0_read_2_2) dX0_read_51 ?_
  refine sc_i (sr_N (As := [.int (σ (22 + j) 1), .int (σ (22 + j) 2)]) (rest := []) ⟨hx, hb, hml, hown, hts⟩ (zX3_purity l D a cs _ (σ (22 + j) 1) (σ (22 + j) 2) _) (va_cnB 2 hts gX0_read_X3_purity_n22 rfl rfl rfl (sN_X0_X3_purity hN) (hts _ mX0_read_3_2) (by decide +kernel) ⟨Nat.le_of_ble_eq_true rfl, Nat.le_of_ble_eq_true rfl⟩) (hts _ mX0_read_4_2) hK hN hw rfl hl.1 (Nat.le_of_ble_eq_true rfl) dX0_read_54 ⟨Nat.le_of_ble_eq_true rfl, Nat.le_of_ble_eq_true rfl⟩) hw hA (fun H locs hw => ?_)
  exact se_i hx hb hr hlocks hw (by rfl) (by rfl) dX0_read_57
theorem mX0_read_0_3 : (Cond.fieldLink RX0 26 "SaltRow$Family" "coins" "I") ∈ wsX0_read := by decide +kernel
theorem iX0_read_X0_3 : ∀ w ∈ wsX00, w ∈ wsX0_read := by decide +kernel
set_option maxHeartbeats 4000000 in
set_option maxRecDepth 100000 in
theorem zX0_read_3 (l : Launch) (D : va_G) (a : Nat → Nat) (cs : Nat → ClassId) (σ : sS) (j : Nat) (hj6 : j < 6) : sMi l yX0_read wsX0_read ({ frames := 2, cells := 0, slots := 0, locals := 46 }) D a cs [.ref (a (22 + j)), .int (nI 3)] σ (f_X0_read (σ (22 + j)) 3) σ := by
  intro sz
  refine Met.ofW (cc := cX0_read) (maxL := 2) (ret := (some .int)) (by decide) rfl ?_
  intro p e s m args below meth c s₁ B hml hv
  obtain ⟨rfl, hsz, hv2⟩ := hv
  have hv3 : sB D a cs σ sz s := ⟨hsz, hv2⟩
  subst hsz
  have hw := sH_start hv3
  obtain ⟨-, -, hK, -, hN⟩ := hv3
  have hx := B.exec
  have hb := B.bytes
  have hr := B.returns
  have hts := atoms_spec (ws := wsX0_read) B.pre
  have hown : s.vm.findClass RX0 = some m.cls := findClass_of_methodNamed B.named
  have hlocks := B.notSynchronized
  have hA : ∀ q : Nat, s.heap.size ≤ q → sA a s.heap.size q := sA_new
  have hl := lv_entry ([.ref (a (22 + j)), .int (nI 3)]) (n := 2) (Nat.le_of_ble_eq_true rfl)
  rw [lg_entry_eq]
  generalize (lg_sl ([.ref (a (22 + j)), .int (nI 3)]) ++ List.replicate (2 - (lg_sl ([.ref (a (22 + j)), .int (nI 3)])).length) Slot.unset).toArray = ls at hl ⊢
  have hl : lv_has ls 2 [(0, .ref (a (22 + j))), (1, .int (nI 3))] := hl
  refine lv_iload_n hx hb dX0_read_0 rfl (lv_at hl 1 rfl) ?_
  refine lv_tableIn (tgt := 58) hx hb dX0_read_1 (by decide) (by decide) (off := 57) (by decide +kernel) (by decide) ?_
  refine lv_aload_n hx hb dX0_read_58 rfl (lv_at hl 0 rfl) ?_
  refine sg_f (j := j) hx hb hts iX0_read_X0_3 hown hK hw (by omega) 3 (by decide) (hts _ mX0_read_0_3) dX0_read_59 ?_
  exact se_i hx hb hr hlocks hw (by rfl) (by rfl) dX0_read_62
theorem mX0_read_0_4 : (Cond.fieldLink RX0 29 "SaltRow$Family" "saltGot" "I") ∈ wsX0_read := by decide +kernel
theorem iX0_read_X0_4 : ∀ w ∈ wsX00, w ∈ wsX0_read := by decide +kernel
set_option maxHeartbeats 4000000 in
set_option maxRecDepth 100000 in
theorem zX0_read_4 (l : Launch) (D : va_G) (a : Nat → Nat) (cs : Nat → ClassId) (σ : sS) (j : Nat) (hj6 : j < 6) : sMi l yX0_read wsX0_read ({ frames := 2, cells := 0, slots := 0, locals := 46 }) D a cs [.ref (a (22 + j)), .int (nI 4)] σ (f_X0_read (σ (22 + j)) 4) σ := by
  intro sz
  refine Met.ofW (cc := cX0_read) (maxL := 2) (ret := (some .int)) (by decide) rfl ?_
  intro p e s m args below meth c s₁ B hml hv
  obtain ⟨rfl, hsz, hv2⟩ := hv
  have hv3 : sB D a cs σ sz s := ⟨hsz, hv2⟩
  subst hsz
  have hw := sH_start hv3
  obtain ⟨-, -, hK, -, hN⟩ := hv3
  have hx := B.exec
  have hb := B.bytes
  have hr := B.returns
  have hts := atoms_spec (ws := wsX0_read) B.pre
  have hown : s.vm.findClass RX0 = some m.cls := findClass_of_methodNamed B.named
  have hlocks := B.notSynchronized
  have hA : ∀ q : Nat, s.heap.size ≤ q → sA a s.heap.size q := sA_new
  have hl := lv_entry ([.ref (a (22 + j)), .int (nI 4)]) (n := 2) (Nat.le_of_ble_eq_true rfl)
  rw [lg_entry_eq]
  generalize (lg_sl ([.ref (a (22 + j)), .int (nI 4)]) ++ List.replicate (2 - (lg_sl ([.ref (a (22 + j)), .int (nI 4)])).length) Slot.unset).toArray = ls at hl ⊢
  have hl : lv_has ls 2 [(0, .ref (a (22 + j))), (1, .int (nI 4))] := hl
  refine lv_iload_n hx hb dX0_read_0 rfl (lv_at hl 1 rfl) ?_
  refine lv_tableIn (tgt := 63) hx hb dX0_read_1 (by decide) (by decide) (off := 62) (by decide +kernel) (by decide) ?_
  refine lv_aload_n hx hb dX0_read_63 rfl (lv_at hl 0 rfl) ?_
  refine sg_f (j := j) hx hb hts iX0_read_X0_4 hown hK hw (by omega) 4 (by decide) (hts _ mX0_read_0_4) dX0_read_64 ?_
  exact se_i hx hb hr hlocks hw (by rfl) (by rfl) dX0_read_67
theorem mX0_read_0_5 : (Cond.fieldLink RX0 32 "SaltRow$Family" "saltSold" "I") ∈ wsX0_read := by decide +kernel
theorem iX0_read_X0_5 : ∀ w ∈ wsX00, w ∈ wsX0_read := by decide +kernel
set_option maxHeartbeats 4000000 in
set_option maxRecDepth 100000 in
theorem zX0_read_5 (l : Launch) (D : va_G) (a : Nat → Nat) (cs : Nat → ClassId) (σ : sS) (j : Nat) (hj6 : j < 6) : sMi l yX0_read wsX0_read ({ frames := 2, cells := 0, slots := 0, locals := 46 }) D a cs [.ref (a (22 + j)), .int (nI 5)] σ (f_X0_read (σ (22 + j)) 5) σ := by
  intro sz
  refine Met.ofW (cc := cX0_read) (maxL := 2) (ret := (some .int)) (by decide) rfl ?_
  intro p e s m args below meth c s₁ B hml hv
  obtain ⟨rfl, hsz, hv2⟩ := hv
  have hv3 : sB D a cs σ sz s := ⟨hsz, hv2⟩
  subst hsz
  have hw := sH_start hv3
  obtain ⟨-, -, hK, -, hN⟩ := hv3
  have hx := B.exec
  have hb := B.bytes
  have hr := B.returns
  have hts := atoms_spec (ws := wsX0_read) B.pre
  have hown : s.vm.findClass RX0 = some m.cls := findClass_of_methodNamed B.named
  have hlocks := B.notSynchronized
  have hA : ∀ q : Nat, s.heap.size ≤ q → sA a s.heap.size q := sA_new
  have hl := lv_entry ([.ref (a (22 + j)), .int (nI 5)]) (n := 2) (Nat.le_of_ble_eq_true rfl)
  rw [lg_entry_eq]
  generalize (lg_sl ([.ref (a (22 + j)), .int (nI 5)]) ++ List.replicate (2 - (lg_sl ([.ref (a (22 + j)), .int (nI 5)])).length) Slot.unset).toArray = ls at hl ⊢
  have hl : lv_has ls 2 [(0, .ref (a (22 + j))), (1, .int (nI 5))] := hl
  refine lv_iload_n hx hb dX0_read_0 rfl (lv_at hl 1 rfl) ?_
  refine lv_tableOut (tgt := 68) hx hb dX0_read_1 (by decide) (by decide) ?_
  refine lv_aload_n hx hb dX0_read_68 rfl (lv_at hl 0 rfl) ?_
  refine sg_f (j := j) hx hb hts iX0_read_X0_5 hown hK hw (by omega) 5 (by decide) (hts _ mX0_read_0_5) dX0_read_69 ?_
  exact se_i hx hb hr hlocks hw (by rfl) (by rfl) dX0_read_72
theorem mX0_getSalt_0 : (Cond.fieldLink RX0 15 "SaltRow$Family" "salt" "I") ∈ wsX0_getSalt := by decide +kernel
theorem iX0_getSalt_X0 : ∀ w ∈ wsX00, w ∈ wsX0_getSalt := by decide +kernel
theorem mX0_getSalt_2 : (Cond.fieldLink RX0 19 "SaltRow$Family" "dirt" "I") ∈ wsX0_getSalt := by decide +kernel
theorem mX0_getSalt_3 : (Cond.fieldLink RX0 29 "SaltRow$Family" "saltGot" "I") ∈ wsX0_getSalt := by decide +kernel
set_option maxHeartbeats 4000000 in
set_option maxRecDepth 100000 in
theorem zX0_getSalt (l : Launch) (D : va_G) (a : Nat → Nat) (cs : Nat → ClassId) (σ : sS) (j : Nat) (hj6 : j < 6) (x : Int32) (y : Int32) : sMv l yX0_getSalt wsX0_getSalt ({ frames := 0, cells := 0, slots := 0, locals := 0 }) D a cs [.ref (a (22 + j)), .int x, .int y] σ (f_X0_getSalt σ j x y) := by
  intro sz
  refine Met.ofW (cc := cX0_getSalt) (maxL := 3) (ret := none) (by decide) rfl ?_
  intro p e s m args below meth c s₁ B hml hv
  obtain ⟨rfl, hsz, hv2⟩ := hv
  have hv3 : sB D a cs σ sz s := ⟨hsz, hv2⟩
  subst hsz
  have hw := sH_start hv3
  obtain ⟨-, -, hK, -, hN⟩ := hv3
  have hx := B.exec
  have hb := B.bytes
  have hr := B.returns
  have hts := atoms_spec (ws := wsX0_getSalt) B.pre
  have hown : s.vm.findClass RX0 = some m.cls := findClass_of_methodNamed B.named
  have hlocks := B.notSynchronized
  have hA : ∀ q : Nat, s.heap.size ≤ q → sA a s.heap.size q := sA_new
  have hl := lv_entry ([.ref (a (22 + j)), .int x, .int y]) (n := 3) (Nat.le_of_ble_eq_true rfl)
  rw [lg_entry_eq]
  generalize (lg_sl ([.ref (a (22 + j)), .int x, .int y]) ++ List.replicate (3 - (lg_sl ([.ref (a (22 + j)), .int x, .int y])).length) Slot.unset).toArray = ls at hl ⊢
  have hl : lv_has ls 3 [(0, .ref (a (22 + j))), (1, .int x), (2, .int y)] := hl
  refine lv_aload_n hx hb dX0_getSalt_0 rfl (lv_at hl 0 rfl) ?_
  refine lv_dup hx hb dX0_getSalt_1 rfl ?_
  refine sg_f (j := j) hx hb hts iX0_getSalt_X0 hown hK hw (by omega) 1 (by decide) (hts _ mX0_getSalt_0) dX0_getSalt_2 ?_
  refine lv_iload_n hx hb dX0_getSalt_5 rfl (lv_at hl 1 rfl) ?_
  refine lv_iadd hx hb dX0_getSalt_6 ?_
  refine sp_f (j := j) hx hb hts iX0_getSalt_X0 hown hK hw (by omega) 1 (by decide) (hts _ mX0_getSalt_0) dX0_getSalt_7 (fun H locs hw => ?_)
  obtain ⟨τ1, eτ1⟩ : ∃ zz : sS, va_up σ (22 + j) (upd (σ (22 + j)) 1 ((σ (22 + j) 1) + x)) = zz := ⟨_, rfl⟩
  rw [eτ1] at hw
  refine lv_aload_n hx hb dX0_getSalt_10 rfl (lv_at hl 0 rfl) ?_
  refine lv_dup hx hb dX0_getSalt_11 rfl ?_
  refine sg_f (j := j) hx hb hts iX0_getSalt_X0 hown hK hw (by omega) 2 (by decide) (hts _ mX0_getSalt_2) dX0_getSalt_12 ?_
  refine lv_iload_n hx hb dX0_getSalt_15 rfl (lv_at hl 2 rfl) ?_
  refine lv_iadd hx hb dX0_getSalt_16 ?_
  refine sp_f (j := j) hx hb hts iX0_getSalt_X0 hown hK hw (by omega) 2 (by decide) (hts _ mX0_getSalt_2) dX0_getSalt_17 (fun H locs hw => ?_)
  obtain ⟨τ2, eτ2⟩ : ∃ zz : sS, va_up τ1 (22 + j) (upd (τ1 (22 + j)) 2 ((τ1 (22 + j) 2) + y)) = zz := ⟨_, rfl⟩
  rw [eτ2] at hw
  refine lv_aload_n hx hb dX0_getSalt_20 rfl (lv_at hl 0 rfl) ?_
  refine lv_dup hx hb dX0_getSalt_21 rfl ?_
  refine sg_f (j := j) hx hb hts iX0_getSalt_X0 hown hK hw (by omega) 4 (by decide) (hts _ mX0_getSalt_3) dX0_getSalt_22 ?_
  refine lv_iload_n hx hb dX0_getSalt_25 rfl (lv_at hl 1 rfl) ?_
  refine lv_iadd hx hb dX0_getSalt_26 ?_
  refine sp_f (j := j) hx hb hts iX0_getSalt_X0 hown hK hw (by omega) 4 (by decide) (hts _ mX0_getSalt_3) dX0_getSalt_27 (fun H locs hw => ?_)
  obtain ⟨τ3, eτ3⟩ : ∃ zz : sS, va_up τ2 (22 + j) (upd (τ2 (22 + j)) 4 ((τ2 (22 + j) 4) + x)) = zz := ⟨_, rfl⟩
  rw [eτ3] at hw
  exact se_v hx hb hr hlocks hw (by subst eτ3 eτ2 eτ1; exact rfl) dX0_getSalt_30
theorem mX2_copyFrom_0 : (Cond.fieldLink RX2 18 "SaltRow$Row" "day" "I") ∈ wsX2_copyFrom := by decide +kernel
theorem iX2_copyFrom_X2 : ∀ w ∈ wsX20, w ∈ wsX2_copyFrom := by decide +kernel
theorem mX2_copyFrom_2 : (Cond.fieldLink RX2 22 "SaltRow$Row" "sun" "I") ∈ wsX2_copyFrom := by decide +kernel
theorem mX2_copyFrom_3 : (Cond.fieldLink RX2 25 "SaltRow$Row" "wind" "I") ∈ wsX2_copyFrom := by decide +kernel
theorem mX2_copyFrom_4 : (Cond.fieldLink RX2 28 "SaltRow$Row" "seaSalt" "I") ∈ wsX2_copyFrom := by decide +kernel
theorem mX2_copyFrom_5 : (Cond.fieldLink RX2 11 "SaltRow$Row" "ponds" "[LSaltRow$Pond;") ∈ wsX2_copyFrom := by decide +kernel
set_option maxHeartbeats 4000000 in
set_option maxRecDepth 100000 in
theorem zX2_copyFrom (l : Launch) (D : va_G) (a : Nat → Nat) (cs : Nat → ClassId) (σ : sS) (hz : sZ σ) : sMv l yX2_copyFrom wsX2_copyFrom ({ frames := 1, cells := 0, slots := 0, locals := 21 }) D a cs [.ref (a 2), .ref (a 1)] σ (f_X2_copyFrom σ) := by
  intro sz
  refine Met.ofW (cc := cX2_copyFrom) (maxL := 3) (ret := none) (by decide) rfl ?_
  intro p e s m args below meth c s₁ B hml hv
  obtain ⟨rfl, hsz, hv2⟩ := hv
  have hv3 : sB D a cs σ sz s := ⟨hsz, hv2⟩
  subst hsz
  have hw := sH_start hv3
  obtain ⟨-, -, hK, -, hN⟩ := hv3
  have hx := B.exec
  have hb := B.bytes
  have hr := B.returns
  have hts := atoms_spec (ws := wsX2_copyFrom) B.pre
  have hown : s.vm.findClass RX2 = some m.cls := findClass_of_methodNamed B.named
  have hlocks := B.notSynchronized
  have hA : ∀ q : Nat, s.heap.size ≤ q → sA a s.heap.size q := sA_new
  have hl := lv_entry ([.ref (a 2), .ref (a 1)]) (n := 3) (Nat.le_of_ble_eq_true rfl)
  rw [lg_entry_eq]
  generalize (lg_sl ([.ref (a 2), .ref (a 1)]) ++ List.replicate (3 - (lg_sl ([.ref (a 2), .ref (a 1)])).length) Slot.unset).toArray = ls at hl ⊢
  have hl : lv_has ls 3 [(0, .ref (a 2)), (1, .ref (a 1))] := hl
  refine lv_aload_n hx hb dX2_copyFrom_0 rfl (lv_at hl 0 rfl) ?_
  refine lv_aload_n hx hb dX2_copyFrom_1 rfl (lv_at hl 1 rfl) ?_
  refine sg_r (r := 0) hx hb hts iX2_copyFrom_X2 hown hK hw (by omega) 1 (by decide) (hts _ mX2_copyFrom_0) dX2_copyFrom_2 ?_
  refine sp_r (r := 1) hx hb hts iX2_copyFrom_X2 hown hK hw (by omega) 1 (by decide) (hts _ mX2_copyFrom_0) dX2_copyFrom_5 (fun H locs hw => ?_)
  obtain ⟨τ1, eτ1⟩ : ∃ zz : sS, va_up σ (1 + 1) (upd (σ (1 + 1)) 1 (σ (1 + 0) 1)) = zz := ⟨_, rfl⟩
  rw [eτ1] at hw
  refine lv_aload_n hx hb dX2_copyFrom_8 rfl (lv_at hl 0 rfl) ?_
  refine lv_aload_n hx hb dX2_copyFrom_9 rfl (lv_at hl 1 rfl) ?_
  refine sg_r (r := 0) hx hb hts iX2_copyFrom_X2 hown hK hw (by omega) 2 (by decide) (hts _ mX2_copyFrom_2) dX2_copyFrom_10 ?_
  refine sp_r (r := 1) hx hb hts iX2_copyFrom_X2 hown hK hw (by omega) 2 (by decide) (hts _ mX2_copyFrom_2) dX2_copyFrom_13 (fun H locs hw => ?_)
  obtain ⟨τ2, eτ2⟩ : ∃ zz : sS, va_up τ1 (1 + 1) (upd (τ1 (1 + 1)) 2 (τ1 (1 + 0) 2)) = zz := ⟨_, rfl⟩
  rw [eτ2] at hw
  refine lv_aload_n hx hb dX2_copyFrom_16 rfl (lv_at hl 0 rfl) ?_
  refine lv_aload_n hx hb dX2_copyFrom_17 rfl (lv_at hl 1 rfl) ?_
  refine sg_r (r := 0) hx hb hts iX2_copyFrom_X2 hown hK hw (by omega) 3 (by decide) (hts _ mX2_copyFrom_3) dX2_copyFrom_18 ?_
  refine sp_r (r := 1) hx hb hts iX2_copyFrom_X2 hown hK hw (by omega) 3 (by decide) (hts _ mX2_copyFrom_3) dX2_copyFrom_21 (fun H locs hw => ?_)
  obtain ⟨τ3, eτ3⟩ : ∃ zz : sS, va_up τ2 (1 + 1) (upd (τ2 (1 + 1)) 3 (τ2 (1 + 0) 3)) = zz := ⟨_, rfl⟩
  rw [eτ3] at hw
  refine lv_aload_n hx hb dX2_copyFrom_24 rfl (lv_at hl 0 rfl) ?_
  refine lv_aload_n hx hb dX2_copyFrom_25 rfl (lv_at hl 1 rfl) ?_
  refine sg_r (r := 0) hx hb hts iX2_copyFrom_X2 hown hK hw (by omega) 4 (by decide) (hts _ mX2_copyFrom_4) dX2_copyFrom_26 ?_
  refine sp_r (r := 1) hx hb hts iX2_copyFrom_X2 hown hK hw (by omega) 4 (by decide) (hts _ mX2_copyFrom_4) dX2_copyFrom_29 (fun H locs hw => ?_)
  obtain ⟨τ4, eτ4⟩ : ∃ zz : sS, va_up τ3 (1 + 1) (upd (τ3 (1 + 1)) 4 (τ3 (1 + 0) 4)) = zz := ⟨_, rfl⟩
  rw [eτ4] at hw
  have hw := sH_w (σ' := va_up σ 2 (σ 1)) (by subst eτ4 eτ3 eτ2 eτ1; rw [sup_up, sup_up, sup_up]; exact sW_up (by rfl)) hw
  refine lv_iconst (v := 0) hx hb dX2_copyFrom_32 (by decide) ?_
  refine lv_istore_n (lv' := [(2, .int 0), (0, .ref (a 2)), (1, .ref (a 1))]) hx hb dX2_copyFrom_33 rfl hl (by decide) rfl (fun ls hl => ?_)
  have loop : ∀ (Q : State → Prop) (n : Nat) (k : Nat) (τ : sS)  (H : Heap) (locs : List Loc) (ls : Array Slot), k + n = 8 ∧ sZ τ → sH D a cs (sA a s.heap.size) s.heap τ H locs → lv_has ls 3 [(0, .ref (a 2)), (1, .ref (a 1)), (2, .int (nI k))] → (∀ (H : Heap) (locs : List Loc) (ls : Array Slot), sH D a cs (sA a s.heap.size) s.heap (f_X2_cp n k τ) H locs → lv_has ls 3 [(0, .ref (a 2))] → W p l e { frames := 1, cells := 0, slots := 0, locals := 21 } s m #[Value.ref (a 2), Value.ref (a 1)] below meth c H locs 0 0 Q (F0 m 61 ls [])) → W p l e { frames := 1, cells := 0, slots := 0, locals := 21 } s m #[Value.ref (a 2), Value.ref (a 1)] below meth c H locs 0 0 Q (F0 m 34 ls []) := by
    intro Q n
    induction n with
    | zero =>
      intro k τ  H locs ls hkn hw hl kont
      refine lv_iload_n hx hb dX2_copyFrom_34 rfl (lv_at hl 2 rfl) ?_
      refine lv_bipush (v := 8) hx hb dX2_copyFrom_35 (by decide) ?_
      refine lv_icmp_ge (tgt := 61) hx hb dX2_copyFrom_37 (by decide) (fun c5 => ?_) (fun c5 => absurd (by rw [show k = 8 by omega]; decide) c5)
      exact kont H locs ls hw (lv_sub hl [0] rfl)
    | succ n ih =>
      intro k τ  H locs ls hkn hw hl kont
      refine lv_iload_n hx hb dX2_copyFrom_34 rfl (lv_at hl 2 rfl) ?_
      refine lv_bipush (v := 8) hx hb dX2_copyFrom_35 (by decide) ?_
      refine lv_icmp_ge (tgt := 61) hx hb dX2_copyFrom_37 (by decide) (fun c6 => absurd c6 (nI_ge (a := k) (b := 8) (by omega) (by decide))) (fun c6 => ?_)
      refine lv_aload_n hx hb dX2_copyFrom_40 rfl (lv_at hl 0 rfl) ?_
      refine sg_rq (r := 1) hx hb hts iX2_copyFrom_X2 hown hK hw (by omega) (hts _ mX2_copyFrom_5) dX2_copyFrom_41 ?_
      refine lv_iload_n hx hb dX2_copyFrom_44 rfl (lv_at hl 2 rfl) ?_
      refine sg_q (r := 1) (k := k) hx hb hK hw (by omega) (by omega) rfl dX2_copyFrom_45 ?_
      refine lv_aload_n hx hb dX2_copyFrom_46 rfl (lv_at hl 1 rfl) ?_
      refine sg_rq (r := 0) hx hb hts iX2_copyFrom_X2 hown hK hw (by omega) (hts _ mX2_copyFrom_5) dX2_copyFrom_47 ?_
      refine lv_iload_n hx hb dX2_copyFrom_50 rfl (lv_at hl 2 rfl) ?_
      refine sg_q (r := 0) (k := k) hx hb hK hw (by omega) (by omega) rfl dX2_copyFrom_51 ?_
      have hw := sH_foc (i := 5 + 8 * 1 + k) hw
      refine sc_v (sr_V (i := 5 + 8 * 1 + k) (As := [.ref (a (5 + 8 * 0 + k))]) (rest := []) ⟨hx, hb, hml, hown, hts⟩ (zX1_copyFrom l D a cs τ (5 + 8 * 1 + k) (5 + 8 * 0 + k) (by omega) (by omega) (by omega) _ (fun q h1 h2 => hkn.2 k (by omega) q h1 h2) _) (cwV 1 hts gX2_copyFrom_X1_copyFrom rfl rfl rfl (by decide +kernel) ⟨Nat.le_of_ble_eq_true rfl, Nat.le_of_ble_eq_true rfl⟩) hK hN hw (by omega) (sE_p (by omega)) kcX1 rfl hl.1 (Nat.le_of_ble_eq_true rfl) dX2_copyFrom_52 ⟨Nat.le_of_ble_eq_true rfl, Nat.le_of_ble_eq_true rfl⟩) hw hA (fun H locs hw => ?_)
      obtain ⟨τ7, eτ7⟩ : ∃ zz : sS, va_up τ (5 + 8 * 1 + k) (τ (5 + 8 * 0 + k)) = zz := ⟨_, rfl⟩
      rw [eτ7] at hw
      refine lv_iinc (v := nI (k + 1)) (lv' := [(2, .int (nI (k + 1))), (0, .ref (a 2)), (1, .ref (a 1))]) hx hb dX2_copyFrom_55 hl (k := 2) rfl (nI_1 k) (by decide) rfl (fun ls hl => ?_)
      refine lv_goto (tgt := 34) hx hb dX2_copyFrom_58 (by decide) ?_
      have hstep : f_X2_cp (n + 1) k τ = f_X2_cp n (k + 1) τ7 := by
        subst eτ7; rfl
      exact ih (k + 1) τ7  H locs ls ⟨by omega, by subst eτ7; exact sZ_up hkn.2 (by omega)⟩ hw (lv_sub hl [1, 2, 0] rfl) (fun H locs ls hw hl => kont H locs ls (by rw [hstep]; exact hw) (by exact hl))
  refine loop _ 8 0 (va_up σ 2 (σ 1))  _ _ _ ⟨by decide, sZ_up hz (by omega)⟩ hw (lv_sub hl [1, 2, 0] rfl) (fun H locs ls hw hl => ?_)
  obtain ⟨τ8, eτ8⟩ : ∃ zz : sS, f_X2_cp 8 0 (va_up σ 2 (σ 1)) = zz := ⟨_, rfl⟩
  rw [eτ8] at hw
  exact se_v hx hb hr hlocks hw (by subst eτ8; exact rfl) dX2_copyFrom_61
