set_option maxHeartbeats 4000000 in
set_option maxRecDepth 100000 in
theorem zX3_portion (l : Launch) (D : va_G) (a : Nat → Nat) (cs : Nat → ClassId) (σ : sS) (x : Int64) (y : Int64) (z : Int64) : sMi l yX3_portion wsX3_portion ({ frames := 0, cells := 0, slots := 0, locals := 0 }) D a cs [.long x, .long y, .long z] σ (f_X3_portion x y z) σ := by
  intro sz
  refine Met.ofW (cc := cX3_portion) (maxL := 6) (ret := (some .int)) (by decide) rfl ?_
  intro p e s m args below meth c s₁ B hml hv
  obtain ⟨rfl, hsz, hv2⟩ := hv
  have hv3 : sB D a cs σ sz s := ⟨hsz, hv2⟩
  subst hsz
  have hw := sH_start hv3
  obtain ⟨-, -, hK, -, hN⟩ := hv3
  have hx := B.exec
  have hb := B.bytes
  have hr := B.returns
  have hts := atoms_spec (ws := wsX3_portion) B.pre
  have hown : s.vm.findClass RX3 = some m.cls := findClass_of_methodNamed B.named
  have hlocks := B.notSynchronized
  have hA : ∀ q : Nat, s.heap.size ≤ q → sA a s.heap.size q := sA_new
  have hl := lv_entry ([.long x, .long y, .long z]) (n := 6) (Nat.le_of_ble_eq_true rfl)
  rw [lg_entry_eq]
  generalize (lg_sl ([.long x, .long y, .long z]) ++ List.replicate (6 - (lg_sl ([.long x, .long y, .long z])).length) Slot.unset).toArray = ls at hl ⊢
  have hl : lv_has ls 6 [(0, .long x), (2, .long y), (4, .long z)] := hl
  refine lv_lload hx hb dX3_portion_0 (lv_at hl 2 rfl) ?_
  refine lv_lconst (v := 1) hx hb dX3_portion_2 (by decide) ?_
  refine W.lcmp hx hb dX3_portion_3 ?_
  refine lv_if_ge (tgt := 11) hx hb dX3_portion_4 (by decide) (fun c1 => ?_) (fun c1 => ?_)
  · refine lv_lload_n hx hb dX3_portion_11 rfl (lv_at hl 0 rfl) ?_
    refine lv_lload_n hx hb dX3_portion_12 rfl (lv_at hl 1 rfl) ?_
    refine lv_lmul hx hb dX3_portion_13 ?_
    refine lv_lload hx hb dX3_portion_14 (lv_at hl 2 rfl) ?_
    refine lv_ldiv hx hb dX3_portion_16 (lg_ne0 c1) ?_
    refine lv_l2i hx hb dX3_portion_17 rfl ?_
    exact se_i hx hb hr hlocks hw (by unfold f_X3_portion; rw [if_pos c1] <;> rfl) (by rfl) dX3_portion_18
  · refine lv_iconst (v := 0) hx hb dX3_portion_7 (by decide) ?_
    refine lv_goto (tgt := 18) hx hb dX3_portion_8 (by decide) ?_
    exact se_i hx hb hr hlocks hw (by unfold f_X3_portion; rw [if_neg c1] <;> rfl) (by rfl) dX3_portion_18
set_option maxHeartbeats 4000000 in
set_option maxRecDepth 100000 in
theorem zX3_roundedUp (l : Launch) (D : va_G) (a : Nat → Nat) (cs : Nat → ClassId) (σ : sS) (x : Int32) (y : Int32) : sMi l yX3_roundedUp wsX3_roundedUp ({ frames := 0, cells := 0, slots := 0, locals := 0 }) D a cs [.int x, .int y] σ (f_X3_roundedUp x y) σ := by
  intro sz
  refine Met.ofW (cc := cX3_roundedUp) (maxL := 2) (ret := (some .int)) (by decide) rfl ?_
  intro p e s m args below meth c s₁ B hml hv
  obtain ⟨rfl, hsz, hv2⟩ := hv
  have hv3 : sB D a cs σ sz s := ⟨hsz, hv2⟩
  subst hsz
  have hw := sH_start hv3
  obtain ⟨-, -, hK, -, hN⟩ := hv3
  have hx := B.exec
  have hb := B.bytes
  have hr := B.returns
  have hts := atoms_spec (ws := wsX3_roundedUp) B.pre
  have hown : s.vm.findClass RX3 = some m.cls := findClass_of_methodNamed B.named
  have hlocks := B.notSynchronized
  have hA : ∀ q : Nat, s.heap.size ≤ q → sA a s.heap.size q := sA_new
  have hl := lv_entry ([.int x, .int y]) (n := 2) (Nat.le_of_ble_eq_true rfl)
  rw [lg_entry_eq]
  generalize (lg_sl ([.int x, .int y]) ++ List.replicate (2 - (lg_sl ([.int x, .int y])).length) Slot.unset).toArray = ls at hl ⊢
  have hl : lv_has ls 2 [(0, .int x), (1, .int y)] := hl
  refine lv_iload_n hx hb dX3_roundedUp_0 rfl (lv_at hl 1 rfl) ?_
  refine lv_iconst (v := 1) hx hb dX3_roundedUp_1 (by decide) ?_
  refine lv_icmp_ge (tgt := 9) hx hb dX3_roundedUp_2 (by decide) (fun c1 => ?_) (fun c1 => ?_)
  · refine lv_iload_n hx hb dX3_roundedUp_9 rfl (lv_at hl 0 rfl) ?_
    refine lv_iload_n hx hb dX3_roundedUp_10 rfl (lv_at hl 1 rfl) ?_
    refine lv_iadd hx hb dX3_roundedUp_11 ?_
    refine lv_iconst (v := 1) hx hb dX3_roundedUp_12 (by decide) ?_
    refine lv_isub hx hb dX3_roundedUp_13 ?_
    refine lv_iload_n hx hb dX3_roundedUp_14 rfl (lv_at hl 1 rfl) ?_
    refine lv_idiv hx hb dX3_roundedUp_15 (li_ne0 c1) ?_
    exact se_i hx hb hr hlocks hw (by unfold f_X3_roundedUp; rw [if_pos c1] <;> rfl) (by rfl) dX3_roundedUp_16
  · refine lv_iconst (v := 0) hx hb dX3_roundedUp_5 (by decide) ?_
    refine lv_goto (tgt := 16) hx hb dX3_roundedUp_6 (by decide) ?_
    exact se_i hx hb hr hlocks hw (by unfold f_X3_roundedUp; rw [if_neg c1] <;> rfl) (by rfl) dX3_roundedUp_16
theorem mX3_tideAt_0 : (Cond.methodLink RX3 324 Lib.Math.abs.name) ∈ wsX3_tideAt := by decide +kernel
theorem mX3_tideAt_1 : (Cond.static Lib.Math.abs.name) ∈ wsX3_tideAt := by decide +kernel
theorem mX3_tideAt_2 : (Cond.initialized "java/lang/Math") ∈ wsX3_tideAt := by decide +kernel
theorem mX3_tideAt_3 : (Cond.code Lib.Math.abs.name Lib.Math.abs.code 1 (some .int)) ∈ wsX3_tideAt := by decide +kernel
set_option maxHeartbeats 4000000 in
set_option maxRecDepth 100000 in
theorem zX3_tideAt (l : Launch) (D : va_G) (a : Nat → Nat) (cs : Nat → ClassId) (σ : sS) (x : Int32) : sMi l yX3_tideAt wsX3_tideAt ({ frames := 1, cells := 0, slots := 0, locals := 25 }) D a cs [.int x] σ (f_X3_tideAt x) σ := by
  intro sz
  refine Met.ofW (cc := cX3_tideAt) (maxL := 1) (ret := (some .int)) (by decide) rfl ?_
  intro p e s m args below meth c s₁ B hml hv
  obtain ⟨rfl, hsz, hv2⟩ := hv
  have hv3 : sB D a cs σ sz s := ⟨hsz, hv2⟩
  subst hsz
  have hw := sH_start hv3
  obtain ⟨-, -, hK, -, hN⟩ := hv3
  have hx := B.exec
  have hb := B.bytes
  have hr := B.returns
  have hts := atoms_spec (ws := wsX3_tideAt) B.pre
  have hown : s.vm.findClass RX3 = some m.cls := findClass_of_methodNamed B.named
  have hlocks := B.notSynchronized
  have hA : ∀ q : Nat, s.heap.size ≤ q → sA a s.heap.size q := sA_new
  have hl := lv_entry ([.int x]) (n := 1) (Nat.le_of_ble_eq_true rfl)
  rw [lg_entry_eq]
  generalize (lg_sl ([.int x]) ++ List.replicate (1 - (lg_sl ([.int x])).length) Slot.unset).toArray = ls at hl ⊢
  have hl : lv_has ls 1 [(0, .int x)] := hl
  refine lv_iconst (v := 2) hx hb dX3_tideAt_0 (by decide) ?_
  refine lv_iload_n hx hb dX3_tideAt_1 rfl (lv_at hl 0 rfl) ?_
  refine lv_bipush (v := 14) hx hb dX3_tideAt_2 (by decide) ?_
  refine lv_irem hx hb dX3_tideAt_4 (by decide) ?_
  refine lv_bipush (v := 7) hx hb dX3_tideAt_5 (by decide) ?_
  refine lv_isub hx hb dX3_tideAt_7 ?_
  refine va_mabs hx hb (hml.trans hl.1.symm) hown (hts _ mX3_tideAt_0) (hts _ mX3_tideAt_1) (hts _ mX3_tideAt_2) (hts _ mX3_tideAt_3) (Nat.le_of_ble_eq_true rfl) (Nat.le_of_ble_eq_true rfl) (Nat.le_of_ble_eq_true rfl) (Nat.le_of_ble_eq_true rfl) dX3_tideAt_8 ?_
  refine lw_topi (fun x1 ex1 => ?_)
  refine lv_iadd hx hb dX3_tideAt_11 ?_
  exact se_i hx hb hr hlocks hw (by subst ex1; exact rfl) (by subst ex1; rfl) dX3_tideAt_12
set_option maxHeartbeats 4000000 in
set_option maxRecDepth 100000 in
theorem zX3_crownsPart (l : Launch) (D : va_G) (a : Nat → Nat) (cs : Nat → ClassId) (σ : sS) (x : Int32) : sMi l yX3_crownsPart wsX3_crownsPart ({ frames := 0, cells := 0, slots := 0, locals := 0 }) D a cs [.int x] σ (f_X3_crownsPart x) σ := by
  intro sz
  refine Met.ofW (cc := cX3_crownsPart) (maxL := 1) (ret := (some .int)) (by decide) rfl ?_
  intro p e s m args below meth c s₁ B hml hv
  obtain ⟨rfl, hsz, hv2⟩ := hv
  have hv3 : sB D a cs σ sz s := ⟨hsz, hv2⟩
  subst hsz
  have hw := sH_start hv3
  obtain ⟨-, -, hK, -, hN⟩ := hv3
  have hx := B.exec
  have hb := B.bytes
  have hr := B.returns
  have hts := atoms_spec (ws := wsX3_crownsPart) B.pre
  have hown : s.vm.findClass RX3 = some m.cls := findClass_of_methodNamed B.named
  have hlocks := B.notSynchronized
  have hA : ∀ q : Nat, s.heap.size ≤ q → sA a s.heap.size q := sA_new
  have hl := lv_entry ([.int x]) (n := 1) (Nat.le_of_ble_eq_true rfl)
  rw [lg_entry_eq]
  generalize (lg_sl ([.int x]) ++ List.replicate (1 - (lg_sl ([.int x])).length) Slot.unset).toArray = ls at hl ⊢
  have hl : lv_has ls 1 [(0, .int x)] := hl
  refine lv_iload_n hx hb dX3_crownsPart_0 rfl (lv_at hl 0 rfl) ?_
  refine lv_bipush (v := 10) hx hb dX3_crownsPart_1 (by decide) ?_
  refine lv_idiv hx hb dX3_crownsPart_3 (by decide) ?_
  exact se_i hx hb hr hlocks hw (by exact rfl) (by rfl) dX3_crownsPart_4
theorem mX3_purity_0 : (Cond.constantLong RX3 327 (100)) ∈ wsX3_purity := by decide +kernel
set_option maxHeartbeats 4000000 in
set_option maxRecDepth 100000 in
theorem zX3_purity (l : Launch) (D : va_G) (a : Nat → Nat) (cs : Nat → ClassId) (σ : sS) (x : Int32) (y : Int32) : sMi l yX3_purity wsX3_purity ({ frames := 1, cells := 0, slots := 0, locals := 25 }) D a cs [.int x, .int y] σ (f_X3_purity x y) σ := by
  intro sz
  refine Met.ofW (cc := cX3_purity) (maxL := 2) (ret := (some .int)) (by decide) rfl ?_
  intro p e s m args below meth c s₁ B hml hv
  obtain ⟨rfl, hsz, hv2⟩ := hv
  have hv3 : sB D a cs σ sz s := ⟨hsz, hv2⟩
  subst hsz
  have hw := sH_start hv3
  obtain ⟨-, -, hK, -, hN⟩ := hv3
  have hx := B.exec
  have hb := B.bytes
  have hr := B.returns
  have hts := atoms_spec (ws := wsX3_purity) B.pre
  have hown : s.vm.findClass RX3 = some m.cls := findClass_of_methodNamed B.named
  have hlocks := B.notSynchronized
  have hA : ∀ q : Nat, s.heap.size ≤ q → sA a s.heap.size q := sA_new
  have hl := lv_entry ([.int x, .int y]) (n := 2) (Nat.le_of_ble_eq_true rfl)
  rw [lg_entry_eq]
  generalize (lg_sl ([.int x, .int y]) ++ List.replicate (2 - (lg_sl ([.int x, .int y])).length) Slot.unset).toArray = ls at hl ⊢
  have hl : lv_has ls 2 [(0, .int x), (1, .int y)] := hl
  refine lv_iload_n hx hb dX3_purity_0 rfl (lv_at hl 0 rfl) ?_
  refine lv_i2l hx hb dX3_purity_1 rfl ?_
  refine lv_ldc2 (v := 100) hx hb hown (hts _ mX3_purity_0) dX3_purity_2 ?_
  refine lv_iload_n hx hb dX3_purity_5 rfl (lv_at hl 0 rfl) ?_
  refine lv_i2l hx hb dX3_purity_6 rfl ?_
  refine lv_iload_n hx hb dX3_purity_7 rfl (lv_at hl 1 rfl) ?_
  refine lv_i2l hx hb dX3_purity_8 rfl ?_
  refine lv_ladd hx hb dX3_purity_9 ?_
  refine sc_i (sr_S (As := [.long x.toInt64, .long 100, .long (x.toInt64 + y.toInt64)]) (rest := []) ⟨hx, hb, hml, hown, hts⟩ (zX3_portion l D a cs _ x.toInt64 100 (x.toInt64 + y.toInt64) _) (va_cwS 3 hts gX3_purity_X3_portion rfl rfl rfl (by decide +kernel) ⟨Nat.le_of_ble_eq_true rfl, Nat.le_of_ble_eq_true rfl⟩) hK hN hw rfl hl.1 (Nat.le_of_ble_eq_true rfl) dX3_purity_10 ⟨Nat.le_of_ble_eq_true rfl, Nat.le_of_ble_eq_true rfl⟩) hw hA (fun H locs hw => ?_)
  exact se_i hx hb hr hlocks hw (by exact rfl) (by rfl) dX3_purity_13
theorem mX1_level_0 : (Cond.fieldLink RX1 15 "SaltRow$Pond" "brine" "I") ∈ wsX1_level := by decide +kernel
theorem iX1_level_X1 : ∀ w ∈ wsX10, w ∈ wsX1_level := by decide +kernel
theorem mX1_level_2 : (Cond.fieldLink RX1 9 "SaltRow$Pond" "area" "I") ∈ wsX1_level := by decide +kernel
theorem mX1_level_3 : (Cond.initialized RX3) ∈ wsX1_level := by decide +kernel
theorem mX1_level_4 : (Cond.static yX3_portion) ∈ wsX1_level := by decide +kernel
set_option maxHeartbeats 4000000 in
set_option maxRecDepth 100000 in
theorem zX1_level (l : Launch) (D : va_G) (a : Nat → Nat) (cs : Nat → ClassId) (σ : sS) (i : Nat) (hi : 5 ≤ i ∧ i < 21) (f : Nat → Int32)  : sMi l yX1_level wsX1_level ({ frames := 1, cells := 0, slots := 0, locals := 25 }) D a cs [.ref (a i)] (va_up σ i f) (f_X1_level f) (va_up σ i f) := by
  intro sz
  refine Met.ofW (cc := cX1_level) (maxL := 1) (ret := (some .int)) (by decide) rfl ?_
  intro p e s m args below meth c s₁ B hml hv
  obtain ⟨rfl, hsz, hv2⟩ := hv
  have hv3 : sB D a cs (va_up σ i f) sz s := ⟨hsz, hv2⟩
  subst hsz
  have hw := sH_start hv3
  obtain ⟨-, -, hK, -, hN⟩ := hv3
  have hx := B.exec
  have hb := B.bytes
  have hr := B.returns
  have hts := atoms_spec (ws := wsX1_level) B.pre
  have hown : s.vm.findClass RX1 = some m.cls := findClass_of_methodNamed B.named
  have hlocks := B.notSynchronized
  have hA : ∀ q : Nat, s.heap.size ≤ q → sA a s.heap.size q := sA_new
  have hl := lv_entry ([.ref (a i)]) (n := 1) (Nat.le_of_ble_eq_true rfl)
  rw [lg_entry_eq]
  generalize (lg_sl ([.ref (a i)]) ++ List.replicate (1 - (lg_sl ([.ref (a i)])).length) Slot.unset).toArray = ls at hl ⊢
  have hl : lv_has ls 1 [(0, .ref (a i))] := hl
  refine lv_aload_n hx hb dX1_level_0 rfl (lv_at hl 0 rfl) ?_
  refine sg_pf hx hb hts iX1_level_X1 hown hK hw hi 1 (f 1) rfl (by decide) (hts _ mX1_level_0) dX1_level_1 ?_
  refine lv_i2l hx hb dX1_level_4 rfl ?_
  refine lv_lconst (v := 1) hx hb dX1_level_5 (by decide) ?_
  refine lv_aload_n hx hb dX1_level_6 rfl (lv_at hl 0 rfl) ?_
  refine sg_pf hx hb hts iX1_level_X1 hown hK hw hi 0 (f 0) rfl (by decide) (hts _ mX1_level_2) dX1_level_7 ?_
  refine lv_i2l hx hb dX1_level_10 rfl ?_
  refine sc_i (sr_N (As := [.long ((f 1).toInt64), .long 1, .long ((f 0).toInt64)]) (rest := []) ⟨hx, hb, hml, hown, hts⟩ (zX3_portion l D a cs _ ((f 1).toInt64) 1 ((f 0).toInt64) _) (va_cnB 3 hts gX1_level_X3_portion_n18 rfl rfl rfl (sN_X1_X3_portion hN) (hts _ mX1_level_3) (by decide +kernel) ⟨Nat.le_of_ble_eq_true rfl, Nat.le_of_ble_eq_true rfl⟩) (hts _ mX1_level_4) hK hN hw rfl hl.1 (Nat.le_of_ble_eq_true rfl) dX1_level_11 ⟨Nat.le_of_ble_eq_true rfl, Nat.le_of_ble_eq_true rfl⟩) hw hA (fun H locs hw => ?_)
  exact se_i hx hb hr hlocks hw (by exact rfl) (by rfl) dX1_level_14
theorem mX1_strength_0 : (Cond.fieldLink RX1 22 "SaltRow$Pond" "salt" "I") ∈ wsX1_strength := by decide +kernel
theorem iX1_strength_X1 : ∀ w ∈ wsX10, w ∈ wsX1_strength := by decide +kernel
theorem mX1_strength_2 : (Cond.fieldLink RX1 25 "SaltRow$Pond" "bitter" "I") ∈ wsX1_strength := by decide +kernel
theorem mX1_strength_3 : (Cond.constantLong RX1 28 (5)) ∈ wsX1_strength := by decide +kernel
theorem mX1_strength_4 : (Cond.fieldLink RX1 15 "SaltRow$Pond" "brine" "I") ∈ wsX1_strength := by decide +kernel
theorem mX1_strength_5 : (Cond.initialized RX3) ∈ wsX1_strength := by decide +kernel
theorem mX1_strength_6 : (Cond.static yX3_portion) ∈ wsX1_strength := by decide +kernel
theorem mX1_strength_7 : (Cond.methodLink RX1 30 Lib.Math.min.name) ∈ wsX1_strength := by decide +kernel
theorem mX1_strength_8 : (Cond.static Lib.Math.min.name) ∈ wsX1_strength := by decide +kernel
theorem mX1_strength_9 : (Cond.initialized "java/lang/Math") ∈ wsX1_strength := by decide +kernel
theorem mX1_strength_10 : (Cond.code Lib.Math.min.name Lib.Math.min.code 2 (some .int)) ∈ wsX1_strength := by decide +kernel
set_option maxHeartbeats 4000000 in
set_option maxRecDepth 100000 in
theorem zX1_strength (l : Launch) (D : va_G) (a : Nat → Nat) (cs : Nat → ClassId) (σ : sS) (i : Nat) (hi : 5 ≤ i ∧ i < 21) (f : Nat → Int32)  : sMi l yX1_strength wsX1_strength ({ frames := 1, cells := 0, slots := 0, locals := 25 }) D a cs [.ref (a i)] (va_up σ i f) (f_X1_strength f) (va_up σ i f) := by
  intro sz
  refine Met.ofW (cc := cX1_strength) (maxL := 1) (ret := (some .int)) (by decide) rfl ?_
  intro p e s m args below meth c s₁ B hml hv
  obtain ⟨rfl, hsz, hv2⟩ := hv
  have hv3 : sB D a cs (va_up σ i f) sz s := ⟨hsz, hv2⟩
  subst hsz
  have hw := sH_start hv3
  obtain ⟨-, -, hK, -, hN⟩ := hv3
  have hx := B.exec
  have hb := B.bytes
  have hr := B.returns
  have hts := atoms_spec (ws := wsX1_strength) B.pre
  have hown : s.vm.findClass RX1 = some m.cls := findClass_of_methodNamed B.named
  have hlocks := B.notSynchronized
  have hA : ∀ q : Nat, s.heap.size ≤ q → sA a s.heap.size q := sA_new
  have hl := lv_entry ([.ref (a i)]) (n := 1) (Nat.le_of_ble_eq_true rfl)
  rw [lg_entry_eq]
  generalize (lg_sl ([.ref (a i)]) ++ List.replicate (1 - (lg_sl ([.ref (a i)])).length) Slot.unset).toArray = ls at hl ⊢
  have hl : lv_has ls 1 [(0, .ref (a i))] := hl
  refine lv_bipush (v := 90) hx hb dX1_strength_0 (by decide) ?_
  refine lv_aload_n hx hb dX1_strength_2 rfl (lv_at hl 0 rfl) ?_
  refine sg_pf hx hb hts iX1_strength_X1 hown hK hw hi 2 (f 2) rfl (by decide) (hts _ mX1_strength_0) dX1_strength_3 ?_
  refine lv_i2l hx hb dX1_strength_6 rfl ?_
  refine lv_aload_n hx hb dX1_strength_7 rfl (lv_at hl 0 rfl) ?_
  refine sg_pf hx hb hts iX1_strength_X1 hown hK hw hi 4 (f 4) rfl (by decide) (hts _ mX1_strength_2) dX1_strength_8 ?_
  refine lv_i2l hx hb dX1_strength_11 rfl ?_
  refine lv_ladd hx hb dX1_strength_12 ?_
  refine lv_lconst (v := 1) hx hb dX1_strength_13 (by decide) ?_
  refine lv_ldc2 (v := 5) hx hb hown (hts _ mX1_strength_3) dX1_strength_14 ?_
  refine lv_aload_n hx hb dX1_strength_17 rfl (lv_at hl 0 rfl) ?_
  refine sg_pf hx hb hts iX1_strength_X1 hown hK hw hi 1 (f 1) rfl (by decide) (hts _ mX1_strength_4) dX1_strength_18 ?_
  refine lv_i2l hx hb dX1_strength_21 rfl ?_
  refine lv_lmul hx hb dX1_strength_22 ?_
  refine sc_i (sr_N (As := [.long (((f 2).toInt64) + ((f 4).toInt64)), .long 1, .long (5 * ((f 1).toInt64))]) (rest := [.int 90]) ⟨hx, hb, hml, hown, hts⟩ (zX3_portion l D a cs _ (((f 2).toInt64) + ((f 4).toInt64)) 1 (5 * ((f 1).toInt64)) _) (va_cnB 3 hts gX1_strength_X3_portion_n18 rfl rfl rfl (sN_X1_X3_portion hN) (hts _ mX1_strength_5) (by decide +kernel) ⟨Nat.le_of_ble_eq_true rfl, Nat.le_of_ble_eq_true rfl⟩) (hts _ mX1_strength_6) hK hN hw rfl hl.1 (Nat.le_of_ble_eq_true rfl) dX1_strength_23 ⟨Nat.le_of_ble_eq_true rfl, Nat.le_of_ble_eq_true rfl⟩) hw hA (fun H locs hw => ?_)
  refine va_mmin hx hb (hml.trans hl.1.symm) hown (hts _ mX1_strength_7) (hts _ mX1_strength_8) (hts _ mX1_strength_9) (hts _ mX1_strength_10) (Nat.le_of_ble_eq_true rfl) (Nat.le_of_ble_eq_true rfl) (Nat.le_of_ble_eq_true rfl) (Nat.le_of_ble_eq_true rfl) dX1_strength_26 ?_
  refine lw_topi (fun x1 ex1 => ?_)
  exact se_i hx hb hr hlocks hw (by subst ex1; exact rfl) (by subst ex1; rfl) dX1_strength_29
theorem mX1_takeIn_0 : (Cond.fieldLink RX1 15 "SaltRow$Pond" "brine" "I") ∈ wsX1_takeIn := by decide +kernel
theorem iX1_takeIn_X1 : ∀ w ∈ wsX10, w ∈ wsX1_takeIn := by decide +kernel
theorem mX1_takeIn_2 : (Cond.fieldLink RX1 22 "SaltRow$Pond" "salt" "I") ∈ wsX1_takeIn := by decide +kernel
theorem mX1_takeIn_3 : (Cond.fieldLink RX1 36 "SaltRow$Pond" "gypsum" "I") ∈ wsX1_takeIn := by decide +kernel
theorem mX1_takeIn_4 : (Cond.fieldLink RX1 25 "SaltRow$Pond" "bitter" "I") ∈ wsX1_takeIn := by decide +kernel
set_option maxHeartbeats 4000000 in
set_option maxRecDepth 100000 in
theorem zX1_takeIn (l : Launch) (D : va_G) (a : Nat → Nat) (cs : Nat → ClassId) (σ : sS) (i : Nat) (hi : 5 ≤ i ∧ i < 21) (f : Nat → Int32) (b : Int32) (s0 : Int32) (g : Int32) (t0 : Int32) : sMv l yX1_takeIn wsX1_takeIn ({ frames := 0, cells := 0, slots := 0, locals := 0 }) D a cs [.ref (a i), .int b, .int s0, .int g, .int t0] (va_up σ i f) (va_up σ i (f_X1_takeIn f b s0 g t0)) := by
  intro sz
  refine Met.ofW (cc := cX1_takeIn) (maxL := 5) (ret := none) (by decide) rfl ?_
  intro p e s m args below meth c s₁ B hml hv
  obtain ⟨rfl, hsz, hv2⟩ := hv
  have hv3 : sB D a cs (va_up σ i f) sz s := ⟨hsz, hv2⟩
  subst hsz
  have hw := sH_start hv3
  obtain ⟨-, -, hK, -, hN⟩ := hv3
  have hx := B.exec
  have hb := B.bytes
  have hr := B.returns
  have hts := atoms_spec (ws := wsX1_takeIn) B.pre
  have hown : s.vm.findClass RX1 = some m.cls := findClass_of_methodNamed B.named
  have hlocks := B.notSynchronized
  have hA : ∀ q : Nat, s.heap.size ≤ q → sA a s.heap.size q := sA_new
  have hl := lv_entry ([.ref (a i), .int b, .int s0, .int g, .int t0]) (n := 5) (Nat.le_of_ble_eq_true rfl)
  rw [lg_entry_eq]
  generalize (lg_sl ([.ref (a i), .int b, .int s0, .int g, .int t0]) ++ List.replicate (5 - (lg_sl ([.ref (a i), .int b, .int s0, .int g, .int t0])).length) Slot.unset).toArray = ls at hl ⊢
  have hl : lv_has ls 5 [(0, .ref (a i)), (1, .int b), (2, .int s0), (3, .int g), (4, .int t0)] := hl
  refine lv_aload_n hx hb dX1_takeIn_0 rfl (lv_at hl 0 rfl) ?_
  refine lv_dup hx hb dX1_takeIn_1 rfl ?_
  refine sg_pf hx hb hts iX1_takeIn_X1 hown hK hw hi 1 (f 1) rfl (by decide) (hts _ mX1_takeIn_0) dX1_takeIn_2 ?_
  refine lv_iload_n hx hb dX1_takeIn_5 rfl (lv_at hl 1 rfl) ?_
  refine lv_iadd hx hb dX1_takeIn_6 ?_
  refine sp_pf hx hb hts iX1_takeIn_X1 hown hK hw hi 1 (by decide) (hts _ mX1_takeIn_0) dX1_takeIn_7 (fun H locs hw => ?_)
  refine lv_aload_n hx hb dX1_takeIn_10 rfl (lv_at hl 0 rfl) ?_
  refine lv_dup hx hb dX1_takeIn_11 rfl ?_
  refine sg_pf hx hb hts iX1_takeIn_X1 hown hK hw hi 2 (f 2) rfl (by decide) (hts _ mX1_takeIn_2) dX1_takeIn_12 ?_
  refine lv_iload_n hx hb dX1_takeIn_15 rfl (lv_at hl 2 rfl) ?_
  refine lv_iadd hx hb dX1_takeIn_16 ?_
  refine sp_pf hx hb hts iX1_takeIn_X1 hown hK hw hi 2 (by decide) (hts _ mX1_takeIn_2) dX1_takeIn_17 (fun H locs hw => ?_)
  refine lv_aload_n hx hb dX1_takeIn_20 rfl (lv_at hl 0 rfl) ?_
  refine lv_dup hx hb dX1_takeIn_21 rfl ?_
  refine sg_pf hx hb hts iX1_takeIn_X1 hown hK hw hi 3 (f 3) rfl (by decide) (hts _ mX1_takeIn_3) dX1_takeIn_22 ?_
  refine lv_iload_n hx hb dX1_takeIn_25 rfl (lv_at hl 3 rfl) ?_
  refine lv_iadd hx hb dX1_takeIn_26 ?_
  refine sp_pf hx hb hts iX1_takeIn_X1 hown hK hw hi 3 (by decide) (hts _ mX1_takeIn_3) dX1_takeIn_27 (fun H locs hw => ?_)
  refine lv_aload_n hx hb dX1_takeIn_30 rfl (lv_at hl 0 rfl) ?_
  refine lv_dup hx hb dX1_takeIn_31 rfl ?_
  refine sg_pf hx hb hts iX1_takeIn_X1 hown hK hw hi 4 (f 4) rfl (by decide) (hts _ mX1_takeIn_4) dX1_takeIn_32 ?_
  refine lv_iload hx hb dX1_takeIn_35 (lv_at hl 4 rfl) ?_
  refine lv_iadd hx hb dX1_takeIn_37 ?_
  refine sp_pf hx hb hts iX1_takeIn_X1 hown hK hw hi 4 (by decide) (hts _ mX1_takeIn_4) dX1_takeIn_38 (fun H locs hw => ?_)
  exact se_v hx hb hr hlocks hw (by exact rfl) dX1_takeIn_41
theorem mX1_rainFalls_0 : (Cond.fieldLink RX1 65 "SaltRow$Pond" "isCovered" "Z") ∈ wsX1_rainFalls := by decide +kernel
theorem iX1_rainFalls_X1 : ∀ w ∈ wsX10, w ∈ wsX1_rainFalls := by decide +kernel
theorem mX1_rainFalls_2 : (Cond.fieldLink RX1 39 "SaltRow$Pond" "fresh" "I") ∈ wsX1_rainFalls := by decide +kernel
theorem mX1_rainFalls_3 : (Cond.fieldLink RX1 9 "SaltRow$Pond" "area" "I") ∈ wsX1_rainFalls := by decide +kernel
set_option maxHeartbeats 4000000 in
set_option maxRecDepth 100000 in
theorem zX1_rainFalls (l : Launch) (D : va_G) (a : Nat → Nat) (cs : Nat → ClassId) (σ : sS) (i : Nat) (hi : 5 ≤ i ∧ i < 21) (f : Nat → Int32) (x : Int32) : sMv l yX1_rainFalls wsX1_rainFalls ({ frames := 0, cells := 0, slots := 0, locals := 0 }) D a cs [.ref (a i), .int x] (va_up σ i f) (va_up σ i (f_X1_rainFalls f x)) := by
  intro sz
  refine Met.ofW (cc := cX1_rainFalls) (maxL := 2) (ret := none) (by decide) rfl ?_
  intro p e s m args below meth c s₁ B hml hv
  obtain ⟨rfl, hsz, hv2⟩ := hv
  have hv3 : sB D a cs (va_up σ i f) sz s := ⟨hsz, hv2⟩
  subst hsz
  have hw := sH_start hv3
  obtain ⟨-, -, hK, -, hN⟩ := hv3
  have hx := B.exec
  have hb := B.bytes
  have hr := B.returns
  have hts := atoms_spec (ws := wsX1_rainFalls) B.pre
  have hown : s.vm.findClass RX1 = some m.cls := findClass_of_methodNamed B.named
  have hlocks := B.notSynchronized
  have hA : ∀ q : Nat, s.heap.size ≤ q → sA a s.heap.size q := sA_new
  have hl := lv_entry ([.ref (a i), .int x]) (n := 2) (Nat.le_of_ble_eq_true rfl)
  rw [lg_entry_eq]
  generalize (lg_sl ([.ref (a i), .int x]) ++ List.replicate (2 - (lg_sl ([.ref (a i), .int x])).length) Slot.unset).toArray = ls at hl ⊢
  have hl : lv_has ls 2 [(0, .ref (a i)), (1, .int x)] := hl
  refine lv_aload_n hx hb dX1_rainFalls_0 rfl (lv_at hl 0 rfl) ?_
  refine sg_pf hx hb hts iX1_rainFalls_X1 hown hK hw hi 10 (f 10) rfl (by decide) (hts _ mX1_rainFalls_0) dX1_rainFalls_1 ?_
  refine lv_if_ne (tgt := 25) hx hb dX1_rainFalls_4 (by decide) (fun c1 => ?_) (fun c1 => ?_)
  · exact se_v hx hb hr hlocks hw (by unfold f_X1_rainFalls; rw [if_neg c1] <;> rfl) dX1_rainFalls_25
  · refine lv_aload_n hx hb dX1_rainFalls_7 rfl (lv_at hl 0 rfl) ?_
    refine lv_dup hx hb dX1_rainFalls_8 rfl ?_
    refine sg_pf hx hb hts iX1_rainFalls_X1 hown hK hw hi 5 (f 5) rfl (by decide) (hts _ mX1_rainFalls_2) dX1_rainFalls_9 ?_
    refine lv_iload_n hx hb dX1_rainFalls_12 rfl (lv_at hl 1 rfl) ?_
    refine lv_aload_n hx hb dX1_rainFalls_13 rfl (lv_at hl 0 rfl) ?_
    refine sg_pf hx hb hts iX1_rainFalls_X1 hown hK hw hi 0 (f 0) rfl (by decide) (hts _ mX1_rainFalls_3) dX1_rainFalls_14 ?_
    refine lv_imul hx hb dX1_rainFalls_17 ?_
    refine lv_bipush (v := 10) hx hb dX1_rainFalls_18 (by decide) ?_
    refine lv_idiv hx hb dX1_rainFalls_20 (by decide) ?_
    refine lv_iadd hx hb dX1_rainFalls_21 ?_
    refine lw_topi (fun x2 ex2 => ?_)
    refine sp_pf hx hb hts iX1_rainFalls_X1 hown hK hw hi 5 (by decide) (hts _ mX1_rainFalls_2) dX1_rainFalls_22 (fun H locs hw => ?_)
    exact se_v hx hb hr hlocks hw (by subst ex2; unfold f_X1_rainFalls; rw [if_pos c1] <;> rfl) dX1_rainFalls_25
theorem mX1_dryOut_0 : (Cond.fieldLink RX1 9 "SaltRow$Pond" "area" "I") ∈ wsX1_dryOut := by decide +kernel
theorem iX1_dryOut_X1 : ∀ w ∈ wsX10, w ∈ wsX1_dryOut := by decide +kernel
theorem mX1_dryOut_2 : (Cond.fieldLink RX1 39 "SaltRow$Pond" "fresh" "I") ∈ wsX1_dryOut := by decide +kernel
theorem mX1_dryOut_3 : (Cond.methodLink RX1 30 Lib.Math.min.name) ∈ wsX1_dryOut := by decide +kernel
theorem mX1_dryOut_4 : (Cond.static Lib.Math.min.name) ∈ wsX1_dryOut := by decide +kernel
theorem mX1_dryOut_5 : (Cond.initialized "java/lang/Math") ∈ wsX1_dryOut := by decide +kernel
theorem mX1_dryOut_6 : (Cond.code Lib.Math.min.name Lib.Math.min.code 2 (some .int)) ∈ wsX1_dryOut := by decide +kernel
theorem mX1_dryOut_7 : (Cond.fieldLink RX1 15 "SaltRow$Pond" "brine" "I") ∈ wsX1_dryOut := by decide +kernel
theorem mX1_dryOut_8 : (Cond.initialized RX3) ∈ wsX1_dryOut := by decide +kernel
theorem mX1_dryOut_9 : (Cond.static yX3_roundedUp) ∈ wsX1_dryOut := by decide +kernel
set_option maxHeartbeats 4000000 in
set_option maxRecDepth 100000 in
theorem zX1_dryOut (l : Launch) (D : va_G) (a : Nat → Nat) (cs : Nat → ClassId) (σ : sS) (i : Nat) (hi : 5 ≤ i ∧ i < 21) (f : Nat → Int32) (x : Int32) : sMv l yX1_dryOut wsX1_dryOut ({ frames := 2, cells := 0, slots := 0, locals := 45 }) D a cs [.ref (a i), .int x] (va_up σ i f) (va_up σ i (f_X1_dryOut f x)) := by
  intro sz
  refine Met.ofW (cc := cX1_dryOut) (maxL := 4) (ret := none) (by decide) rfl ?_
  intro p e s m args below meth c s₁ B hml hv
  obtain ⟨rfl, hsz, hv2⟩ := hv
  have hv3 : sB D a cs (va_up σ i f) sz s := ⟨hsz, hv2⟩
  subst hsz
  have hw := sH_start hv3
  obtain ⟨-, -, hK, -, hN⟩ := hv3
  have hx := B.exec
  have hb := B.bytes
  have hr := B.returns
  have hts := atoms_spec (ws := wsX1_dryOut) B.pre
  have hown : s.vm.findClass RX1 = some m.cls := findClass_of_methodNamed B.named
  have hlocks := B.notSynchronized
  have hA : ∀ q : Nat, s.heap.size ≤ q → sA a s.heap.size q := sA_new
  have hl := lv_entry ([.ref (a i), .int x]) (n := 4) (Nat.le_of_ble_eq_true rfl)
  rw [lg_entry_eq]
  generalize (lg_sl ([.ref (a i), .int x]) ++ List.replicate (4 - (lg_sl ([.ref (a i), .int x])).length) Slot.unset).toArray = ls at hl ⊢
  have hl : lv_has ls 4 [(0, .ref (a i)), (1, .int x)] := hl
  refine lv_aload_n hx hb dX1_dryOut_0 rfl (lv_at hl 0 rfl) ?_
  refine sg_pf hx hb hts iX1_dryOut_X1 hown hK hw hi 0 (f 0) rfl (by decide) (hts _ mX1_dryOut_0) dX1_dryOut_1 ?_
  refine lv_iload_n hx hb dX1_dryOut_4 rfl (lv_at hl 1 rfl) ?_
  refine lv_imul hx hb dX1_dryOut_5 ?_
  refine lv_istore_n (lv' := [(2, .int ((f 0) * x)), (0, .ref (a i)), (1, .int x)]) hx hb dX1_dryOut_6 rfl hl (by decide) rfl (fun ls hl => ?_)
  refine lv_aload_n hx hb dX1_dryOut_7 rfl (lv_at hl 1 rfl) ?_
  refine sg_pf hx hb hts iX1_dryOut_X1 hown hK hw hi 5 (f 5) rfl (by decide) (hts _ mX1_dryOut_2) dX1_dryOut_8 ?_
  refine lv_iload_n hx hb dX1_dryOut_11 rfl (lv_at hl 0 rfl) ?_
  refine lv_bipush (v := 10) hx hb dX1_dryOut_12 (by decide) ?_
  refine lv_idiv hx hb dX1_dryOut_14 (by decide) ?_
  refine va_mmin hx hb (hml.trans hl.1.symm) hown (hts _ mX1_dryOut_3) (hts _ mX1_dryOut_4) (hts _ mX1_dryOut_5) (hts _ mX1_dryOut_6) (Nat.le_of_ble_eq_true rfl) (Nat.le_of_ble_eq_true rfl) (Nat.le_of_ble_eq_true rfl) (Nat.le_of_ble_eq_true rfl) dX1_dryOut_15 ?_
  refine lw_topi (fun x1 ex1 => ?_)
  refine lv_istore_n (lv' := [(3, .int x1), (2, .int ((f 0) * x)), (0, .ref (a i)), (1, .int x)]) hx hb dX1_dryOut_18 rfl hl (by decide) rfl (fun ls hl => ?_)
  refine lv_aload_n hx hb dX1_dryOut_19 rfl (lv_at hl 2 rfl) ?_
  refine lv_dup hx hb dX1_dryOut_20 rfl ?_
  refine sg_pf hx hb hts iX1_dryOut_X1 hown hK hw hi 5 (f 5) rfl (by decide) (hts _ mX1_dryOut_2) dX1_dryOut_21 ?_
  refine lv_iload_n hx hb dX1_dryOut_24 rfl (lv_at hl 0 rfl) ?_
  refine lv_isub hx hb dX1_dryOut_25 ?_
  refine sp_pf hx hb hts iX1_dryOut_X1 hown hK hw hi 5 (by decide) (hts _ mX1_dryOut_2) dX1_dryOut_26 (fun H locs hw => ?_)
  refine lv_iload_n hx hb dX1_dryOut_29 rfl (lv_at hl 1 rfl) ?_
  refine lv_bipush (v := 10) hx hb dX1_dryOut_30 (by decide) ?_
  refine lv_iload_n hx hb dX1_dryOut_32 rfl (lv_at hl 0 rfl) ?_
  refine lv_imul hx hb dX1_dryOut_33 ?_
  refine lv_isub hx hb dX1_dryOut_34 ?_
  refine lw_topi (fun x2 ex2 => ?_)
  refine lv_istore_n (lv' := [(2, .int x2), (3, .int x1), (0, .ref (a i)), (1, .int x)]) hx hb dX1_dryOut_35 rfl hl (by decide) rfl (fun ls hl => ?_)
  refine lv_aload_n hx hb dX1_dryOut_36 rfl (lv_at hl 2 rfl) ?_
  refine lv_dup hx hb dX1_dryOut_37 rfl ?_
  refine sg_pf hx hb hts iX1_dryOut_X1 hown hK hw hi 1 (f 1) rfl (by decide) (hts _ mX1_dryOut_7) dX1_dryOut_38 ?_
  refine lv_aload_n hx hb dX1_dryOut_41 rfl (lv_at hl 2 rfl) ?_
  refine sg_pf hx hb hts iX1_dryOut_X1 hown hK hw hi 1 (f 1) rfl (by decide) (hts _ mX1_dryOut_7) dX1_dryOut_42 ?_
  refine lv_iconst (v := 2) hx hb dX1_dryOut_45 (by decide) ?_
  refine lv_idiv hx hb dX1_dryOut_46 (by decide) ?_
  refine lv_iload_n hx hb dX1_dryOut_47 rfl (lv_at hl 0 rfl) ?_
  refine lv_bipush (v := 100) hx hb dX1_dryOut_48 (by decide) ?_
  refine lv_aload_n hx hb dX1_dryOut_50 rfl (lv_at hl 2 rfl) ?_
  refine sc_i (sr_V (i := i) (As := []) (rest := [.int 100, .int x2, .int ((f 1) / 2), .int (f 1), .ref (a i)]) ⟨hx, hb, hml, hown, hts⟩ (zX1_strength l D a cs _ i hi _ _) (cwV 0 hts gX1_dryOut_X1_strength rfl rfl rfl (by decide +kernel) ⟨Nat.le_of_ble_eq_true rfl, Nat.le_of_ble_eq_true rfl⟩) hK hN hw (by omega) (sE_p hi) kcX1 rfl hl.1 (Nat.le_of_ble_eq_true rfl) dX1_dryOut_51 ⟨Nat.le_of_ble_eq_true rfl, Nat.le_of_ble_eq_true rfl⟩) hw hA (fun H locs hw => ?_)
  refine lv_isub hx hb dX1_dryOut_54 ?_
  refine lv_imul hx hb dX1_dryOut_55 ?_
  refine lv_sipush (v := 1000) hx hb dX1_dryOut_56 (by decide) ?_
  refine sc_i (sr_N (As := [.int (x2 * (100 - (f_X1_strength (upd f 5 ((f 5) - x1))))), .int 1000]) (rest := [.int ((f 1) / 2), .int (f 1), .ref (a i)]) ⟨hx, hb, hml, hown, hts⟩ (zX3_roundedUp l D a cs _ (x2 * (100 - (f_X1_strength (upd f 5 ((f 5) - x1))))) 1000 _) (va_cnB 2 hts gX1_dryOut_X3_roundedUp_n72 rfl rfl rfl (sN_X1_X3_roundedUp hN) (hts _ mX1_dryOut_8) (by decide +kernel) ⟨Nat.le_of_ble_eq_true rfl, Nat.le_of_ble_eq_true rfl⟩) (hts _ mX1_dryOut_9) hK hN hw rfl hl.1 (Nat.le_of_ble_eq_true rfl) dX1_dryOut_59 ⟨Nat.le_of_ble_eq_true rfl, Nat.le_of_ble_eq_true rfl⟩) hw hA (fun H locs hw => ?_)
  refine va_mmin hx hb (hml.trans hl.1.symm) hown (hts _ mX1_dryOut_3) (hts _ mX1_dryOut_4) (hts _ mX1_dryOut_5) (hts _ mX1_dryOut_6) (Nat.le_of_ble_eq_true rfl) (Nat.le_of_ble_eq_true rfl) (Nat.le_of_ble_eq_true rfl) (Nat.le_of_ble_eq_true rfl) dX1_dryOut_62 ?_
  refine lw_topi (fun x3 ex3 => ?_)
  refine lv_isub hx hb dX1_dryOut_65 ?_
  refine sp_pf hx hb hts iX1_dryOut_X1 hown hK hw hi 1 (by decide) (hts _ mX1_dryOut_7) dX1_dryOut_66 (fun H locs hw => ?_)
  exact se_v hx hb hr hlocks hw (by subst ex3 ex2 ex1; exact rfl) dX1_dryOut_69
theorem mX1_mixFresh_0 : (Cond.fieldLink RX1 39 "SaltRow$Pond" "fresh" "I") ∈ wsX1_mixFresh := by decide +kernel
theorem iX1_mixFresh_X1 : ∀ w ∈ wsX10, w ∈ wsX1_mixFresh := by decide +kernel
theorem mX1_mixFresh_2 : (Cond.initialized RX3) ∈ wsX1_mixFresh := by decide +kernel
theorem mX1_mixFresh_3 : (Cond.static yX3_roundedUp) ∈ wsX1_mixFresh := by decide +kernel
theorem mX1_mixFresh_4 : (Cond.fieldLink RX1 42 "SaltRow$Pond" "crustSalt" "I") ∈ wsX1_mixFresh := by decide +kernel
theorem mX1_mixFresh_5 : (Cond.methodLink RX1 30 Lib.Math.min.name) ∈ wsX1_mixFresh := by decide +kernel
theorem mX1_mixFresh_6 : (Cond.static Lib.Math.min.name) ∈ wsX1_mixFresh := by decide +kernel
theorem mX1_mixFresh_7 : (Cond.initialized "java/lang/Math") ∈ wsX1_mixFresh := by decide +kernel
theorem mX1_mixFresh_8 : (Cond.code Lib.Math.min.name Lib.Math.min.code 2 (some .int)) ∈ wsX1_mixFresh := by decide +kernel
theorem mX1_mixFresh_9 : (Cond.fieldLink RX1 15 "SaltRow$Pond" "brine" "I") ∈ wsX1_mixFresh := by decide +kernel
theorem mX1_mixFresh_10 : (Cond.fieldLink RX1 22 "SaltRow$Pond" "salt" "I") ∈ wsX1_mixFresh := by decide +kernel
set_option maxHeartbeats 4000000 in
set_option maxRecDepth 100000 in
theorem zX1_mixFresh (l : Launch) (D : va_G) (a : Nat → Nat) (cs : Nat → ClassId) (σ : sS) (i : Nat) (hi : 5 ≤ i ∧ i < 21) (f : Nat → Int32)  : sMv l yX1_mixFresh wsX1_mixFresh ({ frames := 1, cells := 0, slots := 0, locals := 25 }) D a cs [.ref (a i)] (va_up σ i f) (va_up σ i (f_X1_mixFresh f)) := by
  intro sz
  refine Met.ofW (cc := cX1_mixFresh) (maxL := 3) (ret := none) (by decide) rfl ?_
  intro p e s m args below meth c s₁ B hml hv
  obtain ⟨rfl, hsz, hv2⟩ := hv
  have hv3 : sB D a cs (va_up σ i f) sz s := ⟨hsz, hv2⟩
  subst hsz
  have hw := sH_start hv3
  obtain ⟨-, -, hK, -, hN⟩ := hv3
  have hx := B.exec
  have hb := B.bytes
  have hr := B.returns
  have hts := atoms_spec (ws := wsX1_mixFresh) B.pre
  have hown : s.vm.findClass RX1 = some m.cls := findClass_of_methodNamed B.named
  have hlocks := B.notSynchronized
  have hA : ∀ q : Nat, s.heap.size ≤ q → sA a s.heap.size q := sA_new
  have hl := lv_entry ([.ref (a i)]) (n := 3) (Nat.le_of_ble_eq_true rfl)
  rw [lg_entry_eq]
  generalize (lg_sl ([.ref (a i)]) ++ List.replicate (3 - (lg_sl ([.ref (a i)])).length) Slot.unset).toArray = ls at hl ⊢
  have hl : lv_has ls 3 [(0, .ref (a i))] := hl
  refine lv_aload_n hx hb dX1_mixFresh_0 rfl (lv_at hl 0 rfl) ?_
  refine sg_pf hx hb hts iX1_mixFresh_X1 hown hK hw hi 5 (f 5) rfl (by decide) (hts _ mX1_mixFresh_0) dX1_mixFresh_1 ?_
  refine lv_iconst (v := 2) hx hb dX1_mixFresh_4 (by decide) ?_
  refine sc_i (sr_N (As := [.int (f 5), .int 2]) (rest := []) ⟨hx, hb, hml, hown, hts⟩ (zX3_roundedUp l D a cs _ (f 5) 2 _) (va_cnB 2 hts gX1_mixFresh_X3_roundedUp_n72 rfl rfl rfl (sN_X1_X3_roundedUp hN) (hts _ mX1_mixFresh_2) (by decide +kernel) ⟨Nat.le_of_ble_eq_true rfl, Nat.le_of_ble_eq_true rfl⟩) (hts _ mX1_mixFresh_3) hK hN hw rfl hl.1 (Nat.le_of_ble_eq_true rfl) dX1_mixFresh_5 ⟨Nat.le_of_ble_eq_true rfl, Nat.le_of_ble_eq_true rfl⟩) hw hA (fun H locs hw => ?_)
  refine lv_istore_n (lv' := [(1, .int (f_X3_roundedUp (f 5) 2)), (0, .ref (a i))]) hx hb dX1_mixFresh_8 rfl hl (by decide) rfl (fun ls hl => ?_)
  refine lv_aload_n hx hb dX1_mixFresh_9 rfl (lv_at hl 1 rfl) ?_
  refine sg_pf hx hb hts iX1_mixFresh_X1 hown hK hw hi 6 (f 6) rfl (by decide) (hts _ mX1_mixFresh_4) dX1_mixFresh_10 ?_
  refine lv_iconst (v := 4) hx hb dX1_mixFresh_13 (by decide) ?_
  refine lv_iload_n hx hb dX1_mixFresh_14 rfl (lv_at hl 0 rfl) ?_
  refine lv_imul hx hb dX1_mixFresh_15 ?_
  refine va_mmin hx hb (hml.trans hl.1.symm) hown (hts _ mX1_mixFresh_5) (hts _ mX1_mixFresh_6) (hts _ mX1_mixFresh_7) (hts _ mX1_mixFresh_8) (Nat.le_of_ble_eq_true rfl) (Nat.le_of_ble_eq_true rfl) (Nat.le_of_ble_eq_true rfl) (Nat.le_of_ble_eq_true rfl) dX1_mixFresh_16 ?_
  refine lw_topi (fun x1 ex1 => ?_)
  refine lv_istore_n (lv' := [(2, .int x1), (1, .int (f_X3_roundedUp (f 5) 2)), (0, .ref (a i))]) hx hb dX1_mixFresh_19 rfl hl (by decide) rfl (fun ls hl => ?_)
  refine lv_aload_n hx hb dX1_mixFresh_20 rfl (lv_at hl 2 rfl) ?_
  refine lv_dup hx hb dX1_mixFresh_21 rfl ?_
  refine sg_pf hx hb hts iX1_mixFresh_X1 hown hK hw hi 5 (f 5) rfl (by decide) (hts _ mX1_mixFresh_0) dX1_mixFresh_22 ?_
  refine lv_iload_n hx hb dX1_mixFresh_25 rfl (lv_at hl 1 rfl) ?_
  refine lv_isub hx hb dX1_mixFresh_26 ?_
  refine lw_topi (fun x2 ex2 => ?_)
  refine sp_pf hx hb hts iX1_mixFresh_X1 hown hK hw hi 5 (by decide) (hts _ mX1_mixFresh_0) dX1_mixFresh_27 (fun H locs hw => ?_)
  refine lv_aload_n hx hb dX1_mixFresh_30 rfl (lv_at hl 2 rfl) ?_
  refine lv_dup hx hb dX1_mixFresh_31 rfl ?_
  refine sg_pf hx hb hts iX1_mixFresh_X1 hown hK hw hi 1 (f 1) rfl (by decide) (hts _ mX1_mixFresh_9) dX1_mixFresh_32 ?_
  refine lv_iload_n hx hb dX1_mixFresh_35 rfl (lv_at hl 1 rfl) ?_
  refine lv_iadd hx hb dX1_mixFresh_36 ?_
  refine lw_topi (fun x3 ex3 => ?_)
  refine sp_pf hx hb hts iX1_mixFresh_X1 hown hK hw hi 1 (by decide) (hts _ mX1_mixFresh_9) dX1_mixFresh_37 (fun H locs hw => ?_)
  refine lv_aload_n hx hb dX1_mixFresh_40 rfl (lv_at hl 2 rfl) ?_
  refine lv_dup hx hb dX1_mixFresh_41 rfl ?_
  refine sg_pf hx hb hts iX1_mixFresh_X1 hown hK hw hi 6 (f 6) rfl (by decide) (hts _ mX1_mixFresh_4) dX1_mixFresh_42 ?_
  refine lv_iload_n hx hb dX1_mixFresh_45 rfl (lv_at hl 0 rfl) ?_
  refine lv_isub hx hb dX1_mixFresh_46 ?_
  refine sp_pf hx hb hts iX1_mixFresh_X1 hown hK hw hi 6 (by decide) (hts _ mX1_mixFresh_4) dX1_mixFresh_47 (fun H locs hw => ?_)
  refine lv_aload_n hx hb dX1_mixFresh_50 rfl (lv_at hl 2 rfl) ?_
  refine lv_dup hx hb dX1_mixFresh_51 rfl ?_
  refine sg_pf hx hb hts iX1_mixFresh_X1 hown hK hw hi 2 (f 2) rfl (by decide) (hts _ mX1_mixFresh_10) dX1_mixFresh_52 ?_
  refine lv_iload_n hx hb dX1_mixFresh_55 rfl (lv_at hl 0 rfl) ?_
  refine lv_iadd hx hb dX1_mixFresh_56 ?_
  refine sp_pf hx hb hts iX1_mixFresh_X1 hown hK hw hi 2 (by decide) (hts _ mX1_mixFresh_10) dX1_mixFresh_57 (fun H locs hw => ?_)
  exact se_v hx hb hr hlocks hw (by subst ex3 ex2 ex1; exact rfl) dX1_mixFresh_60
theorem mX1_above_0 : (Cond.fieldLink RX1 15 "SaltRow$Pond" "brine" "I") ∈ wsX1_above := by decide +kernel
theorem iX1_above_X1 : ∀ w ∈ wsX10, w ∈ wsX1_above := by decide +kernel
theorem mX1_above_2 : (Cond.methodLink RX1 78 Lib.MathLoose.max_long.x) ∈ wsX1_above := by decide +kernel
theorem mX1_above_3 : (Cond.static Lib.MathLoose.max_long.x) ∈ wsX1_above := by decide +kernel
theorem mX1_above_4 : (Cond.initialized "java/lang/Math") ∈ wsX1_above := by decide +kernel
theorem mX1_above_5 : (Cond.code Lib.MathLoose.max_long.x Lib.MathLoose.max_long.code 4 (some .long)) ∈ wsX1_above := by decide +kernel
set_option maxHeartbeats 4000000 in
set_option maxRecDepth 100000 in
theorem zX1_above (l : Launch) (D : va_G) (a : Nat → Nat) (cs : Nat → ClassId) (σ : sS) (i : Nat) (hi : 5 ≤ i ∧ i < 21) (f : Nat → Int32) (x : Int32) (y : Int32) : sMi l yX1_above wsX1_above ({ frames := 1, cells := 0, slots := 0, locals := 25 }) D a cs [.ref (a i), .int x, .int y] (va_up σ i f) (f_X1_above f x y) (va_up σ i f) := by
  intro sz
  refine Met.ofW (cc := cX1_above) (maxL := 3) (ret := (some .int)) (by decide) rfl ?_
  intro p e s m args below meth c s₁ B hml hv
  obtain ⟨rfl, hsz, hv2⟩ := hv
  have hv3 : sB D a cs (va_up σ i f) sz s := ⟨hsz, hv2⟩
  subst hsz
  have hw := sH_start hv3
  obtain ⟨-, -, hK, -, hN⟩ := hv3
  have hx := B.exec
  have hb := B.bytes
  have hr := B.returns
  have hts := atoms_spec (ws := wsX1_above) B.pre
  have hown : s.vm.findClass RX1 = some m.cls := findClass_of_methodNamed B.named
  have hlocks := B.notSynchronized
  have hA : ∀ q : Nat, s.heap.size ≤ q → sA a s.heap.size q := sA_new
  have hl := lv_entry ([.ref (a i), .int x, .int y]) (n := 3) (Nat.le_of_ble_eq_true rfl)
  rw [lg_entry_eq]
  generalize (lg_sl ([.ref (a i), .int x, .int y]) ++ List.replicate (3 - (lg_sl ([.ref (a i), .int x, .int y])).length) Slot.unset).toArray = ls at hl ⊢
  have hl : lv_has ls 3 [(0, .ref (a i)), (1, .int x), (2, .int y)] := hl
  refine lv_lconst (v := 0) hx hb dX1_above_0 (by decide) ?_
  refine lv_iload_n hx hb dX1_above_1 rfl (lv_at hl 1 rfl) ?_
  refine lv_i2l hx hb dX1_above_2 rfl ?_
  refine lv_iload_n hx hb dX1_above_3 rfl (lv_at hl 2 rfl) ?_
  refine lv_i2l hx hb dX1_above_4 rfl ?_
  refine lv_aload_n hx hb dX1_above_5 rfl (lv_at hl 0 rfl) ?_
  refine sg_pf hx hb hts iX1_above_X1 hown hK hw hi 1 (f 1) rfl (by decide) (hts _ mX1_above_0) dX1_above_6 ?_
  refine lv_i2l hx hb dX1_above_9 rfl ?_
  refine lv_lmul hx hb dX1_above_10 ?_
  refine lv_lsub hx hb dX1_above_11 ?_
  refine va_mmax_long hx hb (hml.trans hl.1.symm) hown (hts _ mX1_above_2) (hts _ mX1_above_3) (hts _ mX1_above_4) (hts _ mX1_above_5) (Nat.le_of_ble_eq_true rfl) (Nat.le_of_ble_eq_true rfl) (Nat.le_of_ble_eq_true rfl) (Nat.le_of_ble_eq_true rfl) dX1_above_12 ?_
  refine lw_topl (fun x1 ex1 => ?_)
  refine lv_l2i hx hb dX1_above_15 rfl ?_
  exact se_i hx hb hr hlocks hw (by subst ex1; exact rfl) (by subst ex1; rfl) dX1_above_16
theorem mX1_dropMinerals_0 : (Cond.fieldLink RX1 36 "SaltRow$Pond" "gypsum" "I") ∈ wsX1_dropMinerals := by decide +kernel
theorem iX1_dropMinerals_X1 : ∀ w ∈ wsX10, w ∈ wsX1_dropMinerals := by decide +kernel
theorem mX1_dropMinerals_2 : (Cond.fieldLink RX1 25 "SaltRow$Pond" "bitter" "I") ∈ wsX1_dropMinerals := by decide +kernel
theorem mX1_dropMinerals_3 : (Cond.fieldLink RX1 22 "SaltRow$Pond" "salt" "I") ∈ wsX1_dropMinerals := by decide +kernel
theorem mX1_dropMinerals_4 : (Cond.fieldLink RX1 59 "SaltRow$Pond" "saltFallen" "I") ∈ wsX1_dropMinerals := by decide +kernel
theorem mX1_dropMinerals_5 : (Cond.fieldLink RX1 42 "SaltRow$Pond" "crustSalt" "I") ∈ wsX1_dropMinerals := by decide +kernel
theorem mX1_dropMinerals_6 : (Cond.fieldLink RX1 45 "SaltRow$Pond" "crustDirt" "I") ∈ wsX1_dropMinerals := by decide +kernel
set_option maxHeartbeats 4000000 in
set_option maxRecDepth 100000 in
theorem zX1_dropMinerals (l : Launch) (D : va_G) (a : Nat → Nat) (cs : Nat → ClassId) (σ : sS) (i : Nat) (hi : 5 ≤ i ∧ i < 21) (f : Nat → Int32)  : sMv l yX1_dropMinerals wsX1_dropMinerals ({ frames := 2, cells := 0, slots := 0, locals := 47 }) D a cs [.ref (a i)] (va_up σ i f) (va_up σ i (f_X1_dropMinerals f)) := by
  intro sz
  refine Met.ofW (cc := cX1_dropMinerals) (maxL := 3) (ret := none) (by decide) rfl ?_
  intro p e s m args below meth c s₁ B hml hv
  obtain ⟨rfl, hsz, hv2⟩ := hv
  have hv3 : sB D a cs (va_up σ i f) sz s := ⟨hsz, hv2⟩
  subst hsz
  have hw := sH_start hv3
  obtain ⟨-, -, hK, -, hN⟩ := hv3
  have hx := B.exec
  have hb := B.bytes
  have hr := B.returns
  have hts := atoms_spec (ws := wsX1_dropMinerals) B.pre
  have hown : s.vm.findClass RX1 = some m.cls := findClass_of_methodNamed B.named
  have hlocks := B.notSynchronized
  have hA : ∀ q : Nat, s.heap.size ≤ q → sA a s.heap.size q := sA_new
  have hl := lv_entry ([.ref (a i)]) (n := 3) (Nat.le_of_ble_eq_true rfl)
  rw [lg_entry_eq]
  generalize (lg_sl ([.ref (a i)]) ++ List.replicate (3 - (lg_sl ([.ref (a i)])).length) Slot.unset).toArray = ls at hl ⊢
  have hl : lv_has ls 3 [(0, .ref (a i))] := hl
  refine lv_aload_n hx hb dX1_dropMinerals_0 rfl (lv_at hl 0 rfl) ?_
  refine lv_aload_n hx hb dX1_dropMinerals_1 rfl (lv_at hl 0 rfl) ?_
  refine sg_pf hx hb hts iX1_dropMinerals_X1 hown hK hw hi 3 (f 3) rfl (by decide) (hts _ mX1_dropMinerals_0) dX1_dropMinerals_2 ?_
  refine lv_bipush (v := 8) hx hb dX1_dropMinerals_5 (by decide) ?_
  refine sc_i (sr_V (i := i) (As := [.int (f 3), .int 8]) (rest := []) ⟨hx, hb, hml, hown, hts⟩ (zX1_above l D a cs _ i hi _ (f 3) 8 _) (cwV 2 hts gX1_dropMinerals_X1_above rfl rfl rfl (by decide +kernel) ⟨Nat.le_of_ble_eq_true rfl, Nat.le_of_ble_eq_true rfl⟩) hK hN hw (by omega) (sE_p hi) kcX1 rfl hl.1 (Nat.le_of_ble_eq_true rfl) dX1_dropMinerals_7 ⟨Nat.le_of_ble_eq_true rfl, Nat.le_of_ble_eq_true rfl⟩) hw hA (fun H locs hw => ?_)
  refine lv_istore_n (lv' := [(1, .int (f_X1_above f (f 3) 8)), (0, .ref (a i))]) hx hb dX1_dropMinerals_10 rfl hl (by decide) rfl (fun ls hl => ?_)
  refine lv_aload_n hx hb dX1_dropMinerals_11 rfl (lv_at hl 1 rfl) ?_
  refine lv_aload_n hx hb dX1_dropMinerals_12 rfl (lv_at hl 1 rfl) ?_
  refine sg_pf hx hb hts iX1_dropMinerals_X1 hown hK hw hi 4 (f 4) rfl (by decide) (hts _ mX1_dropMinerals_2) dX1_dropMinerals_13 ?_
  refine lv_sipush (v := 200) hx hb dX1_dropMinerals_16 (by decide) ?_
  refine sc_i (sr_V (i := i) (As := [.int (f 4), .int 200]) (rest := []) ⟨hx, hb, hml, hown, hts⟩ (zX1_above l D a cs _ i hi _ (f 4) 200 _) (cwV 2 hts gX1_dropMinerals_X1_above rfl rfl rfl (by decide +kernel) ⟨Nat.le_of_ble_eq_true rfl, Nat.le_of_ble_eq_true rfl⟩) hK hN hw (by omega) (sE_p hi) kcX1 rfl hl.1 (Nat.le_of_ble_eq_true rfl) dX1_dropMinerals_19 ⟨Nat.le_of_ble_eq_true rfl, Nat.le_of_ble_eq_true rfl⟩) hw hA (fun H locs hw => ?_)
  refine lv_istore_n (lv' := [(2, .int (f_X1_above f (f 4) 200)), (1, .int (f_X1_above f (f 3) 8)), (0, .ref (a i))]) hx hb dX1_dropMinerals_22 rfl hl (by decide) rfl (fun ls hl => ?_)
  refine lv_aload_n hx hb dX1_dropMinerals_23 rfl (lv_at hl 2 rfl) ?_
  refine lv_aload_n hx hb dX1_dropMinerals_24 rfl (lv_at hl 2 rfl) ?_
  refine lv_aload_n hx hb dX1_dropMinerals_25 rfl (lv_at hl 2 rfl) ?_
  refine sg_pf hx hb hts iX1_dropMinerals_X1 hown hK hw hi 2 (f 2) rfl (by decide) (hts _ mX1_dropMinerals_3) dX1_dropMinerals_26 ?_
  refine lv_sipush (v := 300) hx hb dX1_dropMinerals_29 (by decide) ?_
  refine sc_i (sr_V (i := i) (As := [.int (f 2), .int 300]) (rest := [.ref (a i)]) ⟨hx, hb, hml, hown, hts⟩ (zX1_above l D a cs _ i hi _ (f 2) 300 _) (cwV 2 hts gX1_dropMinerals_X1_above rfl rfl rfl (by decide +kernel) ⟨Nat.le_of_ble_eq_true rfl, Nat.le_of_ble_eq_true rfl⟩) hK hN hw (by omega) (sE_p hi) kcX1 rfl hl.1 (Nat.le_of_ble_eq_true rfl) dX1_dropMinerals_32 ⟨Nat.le_of_ble_eq_true rfl, Nat.le_of_ble_eq_true rfl⟩) hw hA (fun H locs hw => ?_)
  refine sp_pf hx hb hts iX1_dropMinerals_X1 hown hK hw hi 8 (by decide) (hts _ mX1_dropMinerals_4) dX1_dropMinerals_35 (fun H locs hw => ?_)
  refine lv_aload_n hx hb dX1_dropMinerals_38 rfl (lv_at hl 2 rfl) ?_
  refine lv_dup hx hb dX1_dropMinerals_39 rfl ?_
  refine sg_pf hx hb hts iX1_dropMinerals_X1 hown hK hw hi 3 (f 3) rfl (by decide) (hts _ mX1_dropMinerals_0) dX1_dropMinerals_40 ?_
  refine lv_iload_n hx hb dX1_dropMinerals_43 rfl (lv_at hl 1 rfl) ?_
  refine lv_isub hx hb dX1_dropMinerals_44 ?_
  refine lw_topi (fun x1 ex1 => ?_)
  refine sp_pf hx hb hts iX1_dropMinerals_X1 hown hK hw hi 3 (by decide) (hts _ mX1_dropMinerals_0) dX1_dropMinerals_45 (fun H locs hw => ?_)
  refine lv_aload_n hx hb dX1_dropMinerals_48 rfl (lv_at hl 2 rfl) ?_
  refine lv_dup hx hb dX1_dropMinerals_49 rfl ?_
  refine sg_pf hx hb hts iX1_dropMinerals_X1 hown hK hw hi 2 (f 2) rfl (by decide) (hts _ mX1_dropMinerals_3) dX1_dropMinerals_50 ?_
  refine lv_aload_n hx hb dX1_dropMinerals_53 rfl (lv_at hl 2 rfl) ?_
  refine sg_pf hx hb hts iX1_dropMinerals_X1 hown hK hw hi 8 (f_X1_above f (f 2) 300) rfl (by decide) (hts _ mX1_dropMinerals_4) dX1_dropMinerals_54 ?_
  refine lv_isub hx hb dX1_dropMinerals_57 ?_
  refine lw_topi (fun x2 ex2 => ?_)
  refine sp_pf hx hb hts iX1_dropMinerals_X1 hown hK hw hi 2 (by decide) (hts _ mX1_dropMinerals_3) dX1_dropMinerals_58 (fun H locs hw => ?_)
  refine lv_aload_n hx hb dX1_dropMinerals_61 rfl (lv_at hl 2 rfl) ?_
  refine lv_dup hx hb dX1_dropMinerals_62 rfl ?_
  refine sg_pf hx hb hts iX1_dropMinerals_X1 hown hK hw hi 4 (f 4) rfl (by decide) (hts _ mX1_dropMinerals_2) dX1_dropMinerals_63 ?_
  refine lv_iload_n hx hb dX1_dropMinerals_66 rfl (lv_at hl 0 rfl) ?_
  refine lv_isub hx hb dX1_dropMinerals_67 ?_
  refine lw_topi (fun x3 ex3 => ?_)
  refine sp_pf hx hb hts iX1_dropMinerals_X1 hown hK hw hi 4 (by decide) (hts _ mX1_dropMinerals_2) dX1_dropMinerals_68 (fun H locs hw => ?_)
  refine lv_aload_n hx hb dX1_dropMinerals_71 rfl (lv_at hl 2 rfl) ?_
  refine lv_dup hx hb dX1_dropMinerals_72 rfl ?_
  refine sg_pf hx hb hts iX1_dropMinerals_X1 hown hK hw hi 6 (f 6) rfl (by decide) (hts _ mX1_dropMinerals_5) dX1_dropMinerals_73 ?_
  refine lv_aload_n hx hb dX1_dropMinerals_76 rfl (lv_at hl 2 rfl) ?_
  refine sg_pf hx hb hts iX1_dropMinerals_X1 hown hK hw hi 8 (f_X1_above f (f 2) 300) rfl (by decide) (hts _ mX1_dropMinerals_4) dX1_dropMinerals_77 ?_
  refine lv_iadd hx hb dX1_dropMinerals_80 ?_
  refine lw_topi (fun x4 ex4 => ?_)
  refine sp_pf hx hb hts iX1_dropMinerals_X1 hown hK hw hi 6 (by decide) (hts _ mX1_dropMinerals_5) dX1_dropMinerals_81 (fun H locs hw => ?_)
  refine lv_aload_n hx hb dX1_dropMinerals_84 rfl (lv_at hl 2 rfl) ?_
  refine lv_dup hx hb dX1_dropMinerals_85 rfl ?_
  refine sg_pf hx hb hts iX1_dropMinerals_X1 hown hK hw hi 7 (f 7) rfl (by decide) (hts _ mX1_dropMinerals_6) dX1_dropMinerals_86 ?_
  refine lv_iload_n hx hb dX1_dropMinerals_89 rfl (lv_at hl 1 rfl) ?_
  refine lv_iload_n hx hb dX1_dropMinerals_90 rfl (lv_at hl 0 rfl) ?_
  refine lv_iadd hx hb dX1_dropMinerals_91 ?_
  refine lv_iadd hx hb dX1_dropMinerals_92 ?_
  refine lw_topi (fun x5 ex5 => ?_)
  refine sp_pf hx hb hts iX1_dropMinerals_X1 hown hK hw hi 7 (by decide) (hts _ mX1_dropMinerals_6) dX1_dropMinerals_93 (fun H locs hw => ?_)
  exact se_v hx hb hr hlocks hw (by subst ex5 ex4 ex3 ex2 ex1; exact rfl) dX1_dropMinerals_96
theorem mX1_canBeHarvested_0 : (Cond.fieldLink RX1 42 "SaltRow$Pond" "crustSalt" "I") ∈ wsX1_canBeHarvested := by decide +kernel
theorem iX1_canBeHarvested_X1 : ∀ w ∈ wsX10, w ∈ wsX1_canBeHarvested := by decide +kernel
theorem mX1_canBeHarvested_2 : (Cond.fieldLink RX1 55 "SaltRow$Pond" "wasHarvested" "Z") ∈ wsX1_canBeHarvested := by decide +kernel
set_option maxHeartbeats 4000000 in
set_option maxRecDepth 100000 in
theorem zX1_canBeHarvested (l : Launch) (D : va_G) (a : Nat → Nat) (cs : Nat → ClassId) (σ : sS) (i : Nat) (hi : 5 ≤ i ∧ i < 21) (f : Nat → Int32)  : sMi l yX1_canBeHarvested wsX1_canBeHarvested ({ frames := 0, cells := 0, slots := 0, locals := 0 }) D a cs [.ref (a i)] (va_up σ i f) (f_X1_canBeHarvested f) (va_up σ i f) := by
  intro sz
  refine Met.ofW (cc := cX1_canBeHarvested) (maxL := 1) (ret := (some .boolean)) (by decide) rfl ?_
  intro p e s m args below meth c s₁ B hml hv
  obtain ⟨rfl, hsz, hv2⟩ := hv
  have hv3 : sB D a cs (va_up σ i f) sz s := ⟨hsz, hv2⟩
  subst hsz
  have hw := sH_start hv3
  obtain ⟨-, -, hK, -, hN⟩ := hv3
  have hx := B.exec
  have hb := B.bytes
  have hr := B.returns
  have hts := atoms_spec (ws := wsX1_canBeHarvested) B.pre
  have hown : s.vm.findClass RX1 = some m.cls := findClass_of_methodNamed B.named
  have hlocks := B.notSynchronized
  have hA : ∀ q : Nat, s.heap.size ≤ q → sA a s.heap.size q := sA_new
  have hl := lv_entry ([.ref (a i)]) (n := 1) (Nat.le_of_ble_eq_true rfl)
  rw [lg_entry_eq]
  generalize (lg_sl ([.ref (a i)]) ++ List.replicate (1 - (lg_sl ([.ref (a i)])).length) Slot.unset).toArray = ls at hl ⊢
  have hl : lv_has ls 1 [(0, .ref (a i))] := hl
  refine lv_aload_n hx hb dX1_canBeHarvested_0 rfl (lv_at hl 0 rfl) ?_
  refine sg_pf hx hb hts iX1_canBeHarvested_X1 hown hK hw hi 6 (f 6) rfl (by decide) (hts _ mX1_canBeHarvested_0) dX1_canBeHarvested_1 ?_
  refine lv_if_le (tgt := 18) hx hb dX1_canBeHarvested_4 (by decide) (fun c1 => ?_) (fun c1 => ?_)
  · refine lv_iconst (v := 0) hx hb dX1_canBeHarvested_18 (by decide) ?_
    exact se_z hx hb hr hlocks hw (Or.inl rfl) (by unfold f_X1_canBeHarvested; rw [if_pos c1] <;> rfl) (by rfl) dX1_canBeHarvested_19
  · refine lv_aload_n hx hb dX1_canBeHarvested_7 rfl (lv_at hl 0 rfl) ?_
    refine sg_pf hx hb hts iX1_canBeHarvested_X1 hown hK hw hi 11 (f 11) rfl (by decide) (hts _ mX1_canBeHarvested_2) dX1_canBeHarvested_8 ?_
    refine lv_if_ne (tgt := 18) hx hb dX1_canBeHarvested_11 (by decide) (fun c2 => ?_) (fun c2 => ?_)
    · refine lv_iconst (v := 0) hx hb dX1_canBeHarvested_18 (by decide) ?_
      exact se_z hx hb hr hlocks hw (Or.inl rfl) (by unfold f_X1_canBeHarvested; rw [if_neg c1, if_neg c2] <;> rfl) (by rfl) dX1_canBeHarvested_19
    · refine lv_iconst (v := 1) hx hb dX1_canBeHarvested_14 (by decide) ?_
      refine lv_goto (tgt := 19) hx hb dX1_canBeHarvested_15 (by decide) ?_
      exact se_z hx hb hr hlocks hw (Or.inr rfl) (by unfold f_X1_canBeHarvested; rw [if_neg c1, if_pos c2] <;> rfl) (by rfl) dX1_canBeHarvested_19
theorem mX1_saltOfHarvest_0 : (Cond.fieldLink RX1 42 "SaltRow$Pond" "crustSalt" "I") ∈ wsX1_saltOfHarvest := by decide +kernel
theorem iX1_saltOfHarvest_X1 : ∀ w ∈ wsX10, w ∈ wsX1_saltOfHarvest := by decide +kernel
theorem mX1_saltOfHarvest_2 : (Cond.fieldLink RX1 9 "SaltRow$Pond" "area" "I") ∈ wsX1_saltOfHarvest := by decide +kernel
theorem mX1_saltOfHarvest_3 : (Cond.methodLink RX1 30 Lib.Math.min.name) ∈ wsX1_saltOfHarvest := by decide +kernel
theorem mX1_saltOfHarvest_4 : (Cond.static Lib.Math.min.name) ∈ wsX1_saltOfHarvest := by decide +kernel
theorem mX1_saltOfHarvest_5 : (Cond.initialized "java/lang/Math") ∈ wsX1_saltOfHarvest := by decide +kernel
theorem mX1_saltOfHarvest_6 : (Cond.code Lib.Math.min.name Lib.Math.min.code 2 (some .int)) ∈ wsX1_saltOfHarvest := by decide +kernel
set_option maxHeartbeats 4000000 in
set_option maxRecDepth 100000 in
theorem zX1_saltOfHarvest (l : Launch) (D : va_G) (a : Nat → Nat) (cs : Nat → ClassId) (σ : sS) (i : Nat) (hi : 5 ≤ i ∧ i < 21) (f : Nat → Int32) (x : Int32) : sMi l yX1_saltOfHarvest wsX1_saltOfHarvest ({ frames := 1, cells := 0, slots := 0, locals := 25 }) D a cs [.ref (a i), .int x] (va_up σ i f) (f_X1_saltOfHarvest f x) (va_up σ i f) := by
  intro sz
  refine Met.ofW (cc := cX1_saltOfHarvest) (maxL := 2) (ret := (some .int)) (by decide) rfl ?_
  intro p e s m args below meth c s₁ B hml hv
  obtain ⟨rfl, hsz, hv2⟩ := hv
  have hv3 : sB D a cs (va_up σ i f) sz s := ⟨hsz, hv2⟩
  subst hsz
  have hw := sH_start hv3
  obtain ⟨-, -, hK, -, hN⟩ := hv3
  have hx := B.exec
  have hb := B.bytes
  have hr := B.returns
  have hts := atoms_spec (ws := wsX1_saltOfHarvest) B.pre
  have hown : s.vm.findClass RX1 = some m.cls := findClass_of_methodNamed B.named
  have hlocks := B.notSynchronized
  have hA : ∀ q : Nat, s.heap.size ≤ q → sA a s.heap.size q := sA_new
  have hl := lv_entry ([.ref (a i), .int x]) (n := 2) (Nat.le_of_ble_eq_true rfl)
  rw [lg_entry_eq]
  generalize (lg_sl ([.ref (a i), .int x]) ++ List.replicate (2 - (lg_sl ([.ref (a i), .int x])).length) Slot.unset).toArray = ls at hl ⊢
  have hl : lv_has ls 2 [(0, .ref (a i)), (1, .int x)] := hl
  refine lv_iload_n hx hb dX1_saltOfHarvest_0 rfl (lv_at hl 1 rfl) ?_
  refine lv_if_eq (tgt := 11) hx hb dX1_saltOfHarvest_1 (by decide) (fun c1 => ?_) (fun c1 => ?_)
  · refine lv_aload_n hx hb dX1_saltOfHarvest_11 rfl (lv_at hl 0 rfl) ?_
    refine sg_pf hx hb hts iX1_saltOfHarvest_X1 hown hK hw hi 6 (f 6) rfl (by decide) (hts _ mX1_saltOfHarvest_0) dX1_saltOfHarvest_12 ?_
    refine lv_sipush (v := 200) hx hb dX1_saltOfHarvest_15 (by decide) ?_
    refine lv_aload_n hx hb dX1_saltOfHarvest_18 rfl (lv_at hl 0 rfl) ?_
    refine sg_pf hx hb hts iX1_saltOfHarvest_X1 hown hK hw hi 0 (f 0) rfl (by decide) (hts _ mX1_saltOfHarvest_2) dX1_saltOfHarvest_19 ?_
    refine lv_imul hx hb dX1_saltOfHarvest_22 ?_
    refine va_mmin hx hb (hml.trans hl.1.symm) hown (hts _ mX1_saltOfHarvest_3) (hts _ mX1_saltOfHarvest_4) (hts _ mX1_saltOfHarvest_5) (hts _ mX1_saltOfHarvest_6) (Nat.le_of_ble_eq_true rfl) (Nat.le_of_ble_eq_true rfl) (Nat.le_of_ble_eq_true rfl) (Nat.le_of_ble_eq_true rfl) dX1_saltOfHarvest_23 ?_
    refine lw_topi (fun x2 ex2 => ?_)
    exact se_i hx hb hr hlocks hw (by subst ex2; unfold f_X1_saltOfHarvest; rw [if_pos c1] <;> rfl) (by subst ex2; rfl) dX1_saltOfHarvest_26
  · refine lv_aload_n hx hb dX1_saltOfHarvest_4 rfl (lv_at hl 0 rfl) ?_
    refine sg_pf hx hb hts iX1_saltOfHarvest_X1 hown hK hw hi 6 (f 6) rfl (by decide) (hts _ mX1_saltOfHarvest_0) dX1_saltOfHarvest_5 ?_
    refine lv_goto (tgt := 26) hx hb dX1_saltOfHarvest_8 (by decide) ?_
    exact se_i hx hb hr hlocks hw (by unfold f_X1_saltOfHarvest; rw [if_neg c1] <;> rfl) (by rfl) dX1_saltOfHarvest_26
theorem mX1_dirtOfCrustWith_0 : (Cond.fieldLink RX1 45 "SaltRow$Pond" "crustDirt" "I") ∈ wsX1_dirtOfCrustWith := by decide +kernel
theorem iX1_dirtOfCrustWith_X1 : ∀ w ∈ wsX10, w ∈ wsX1_dirtOfCrustWith := by decide +kernel
theorem mX1_dirtOfCrustWith_2 : (Cond.fieldLink RX1 42 "SaltRow$Pond" "crustSalt" "I") ∈ wsX1_dirtOfCrustWith := by decide +kernel
theorem mX1_dirtOfCrustWith_3 : (Cond.initialized RX3) ∈ wsX1_dirtOfCrustWith := by decide +kernel
theorem mX1_dirtOfCrustWith_4 : (Cond.static yX3_portion) ∈ wsX1_dirtOfCrustWith := by decide +kernel
set_option maxHeartbeats 4000000 in
set_option maxRecDepth 100000 in
theorem zX1_dirtOfCrustWith (l : Launch) (D : va_G) (a : Nat → Nat) (cs : Nat → ClassId) (σ : sS) (i : Nat) (hi : 5 ≤ i ∧ i < 21) (f : Nat → Int32) (x : Int32) : sMi l yX1_dirtOfCrustWith wsX1_dirtOfCrustWith ({ frames := 1, cells := 0, slots := 0, locals := 25 }) D a cs [.ref (a i), .int x] (va_up σ i f) (f_X1_dirtOfCrustWith f x) (va_up σ i f) := by
  intro sz
  refine Met.ofW (cc := cX1_dirtOfCrustWith) (maxL := 2) (ret := (some .int)) (by decide) rfl ?_
  intro p e s m args below meth c s₁ B hml hv
  obtain ⟨rfl, hsz, hv2⟩ := hv
  have hv3 : sB D a cs (va_up σ i f) sz s := ⟨hsz, hv2⟩
  subst hsz
  have hw := sH_start hv3
  obtain ⟨-, -, hK, -, hN⟩ := hv3
  have hx := B.exec
  have hb := B.bytes
  have hr := B.returns
  have hts := atoms_spec (ws := wsX1_dirtOfCrustWith) B.pre
  have hown : s.vm.findClass RX1 = some m.cls := findClass_of_methodNamed B.named
  have hlocks := B.notSynchronized
  have hA : ∀ q : Nat, s.heap.size ≤ q → sA a s.heap.size q := sA_new
  have hl := lv_entry ([.ref (a i), .int x]) (n := 2) (Nat.le_of_ble_eq_true rfl)
  rw [lg_entry_eq]
  generalize (lg_sl ([.ref (a i), .int x]) ++ List.replicate (2 - (lg_sl ([.ref (a i), .int x])).length) Slot.unset).toArray = ls at hl ⊢
  have hl : lv_has ls 2 [(0, .ref (a i)), (1, .int x)] := hl
  refine lv_aload_n hx hb dX1_dirtOfCrustWith_0 rfl (lv_at hl 0 rfl) ?_
  refine sg_pf hx hb hts iX1_dirtOfCrustWith_X1 hown hK hw hi 7 (f 7) rfl (by decide) (hts _ mX1_dirtOfCrustWith_0) dX1_dirtOfCrustWith_1 ?_
  refine lv_i2l hx hb dX1_dirtOfCrustWith_4 rfl ?_
  refine lv_iload_n hx hb dX1_dirtOfCrustWith_5 rfl (lv_at hl 1 rfl) ?_
  refine lv_i2l hx hb dX1_dirtOfCrustWith_6 rfl ?_
  refine lv_aload_n hx hb dX1_dirtOfCrustWith_7 rfl (lv_at hl 0 rfl) ?_
  refine sg_pf hx hb hts iX1_dirtOfCrustWith_X1 hown hK hw hi 6 (f 6) rfl (by decide) (hts _ mX1_dirtOfCrustWith_2) dX1_dirtOfCrustWith_8 ?_
  refine lv_i2l hx hb dX1_dirtOfCrustWith_11 rfl ?_
  refine sc_i (sr_N (As := [.long ((f 7).toInt64), .long x.toInt64, .long ((f 6).toInt64)]) (rest := []) ⟨hx, hb, hml, hown, hts⟩ (zX3_portion l D a cs _ ((f 7).toInt64) x.toInt64 ((f 6).toInt64) _) (va_cnB 3 hts gX1_dirtOfCrustWith_X3_portion_n18 rfl rfl rfl (sN_X1_X3_portion hN) (hts _ mX1_dirtOfCrustWith_3) (by decide +kernel) ⟨Nat.le_of_ble_eq_true rfl, Nat.le_of_ble_eq_true rfl⟩) (hts _ mX1_dirtOfCrustWith_4) hK hN hw rfl hl.1 (Nat.le_of_ble_eq_true rfl) dX1_dirtOfCrustWith_12 ⟨Nat.le_of_ble_eq_true rfl, Nat.le_of_ble_eq_true rfl⟩) hw hA (fun H locs hw => ?_)
  exact se_i hx hb hr hlocks hw (by exact rfl) (by rfl) dX1_dirtOfCrustWith_15
theorem mX1_dirtOfFloor_0 : (Cond.fieldLink RX1 9 "SaltRow$Pond" "area" "I") ∈ wsX1_dirtOfFloor := by decide +kernel
theorem iX1_dirtOfFloor_X1 : ∀ w ∈ wsX10, w ∈ wsX1_dirtOfFloor := by decide +kernel
set_option maxHeartbeats 4000000 in
set_option maxRecDepth 100000 in
theorem zX1_dirtOfFloor (l : Launch) (D : va_G) (a : Nat → Nat) (cs : Nat → ClassId) (σ : sS) (i : Nat) (hi : 5 ≤ i ∧ i < 21) (f : Nat → Int32) (x : Int32) : sMi l yX1_dirtOfFloor wsX1_dirtOfFloor ({ frames := 0, cells := 0, slots := 0, locals := 0 }) D a cs [.ref (a i), .int x] (va_up σ i f) (f_X1_dirtOfFloor f x) (va_up σ i f) := by
  intro sz
  refine Met.ofW (cc := cX1_dirtOfFloor) (maxL := 2) (ret := (some .int)) (by decide) rfl ?_
  intro p e s m args below meth c s₁ B hml hv
  obtain ⟨rfl, hsz, hv2⟩ := hv
  have hv3 : sB D a cs (va_up σ i f) sz s := ⟨hsz, hv2⟩
  subst hsz
  have hw := sH_start hv3
  obtain ⟨-, -, hK, -, hN⟩ := hv3
  have hx := B.exec
  have hb := B.bytes
  have hr := B.returns
  have hts := atoms_spec (ws := wsX1_dirtOfFloor) B.pre
  have hown : s.vm.findClass RX1 = some m.cls := findClass_of_methodNamed B.named
  have hlocks := B.notSynchronized
  have hA : ∀ q : Nat, s.heap.size ≤ q → sA a s.heap.size q := sA_new
  have hl := lv_entry ([.ref (a i), .int x]) (n := 2) (Nat.le_of_ble_eq_true rfl)
  rw [lg_entry_eq]
  generalize (lg_sl ([.ref (a i), .int x]) ++ List.replicate (2 - (lg_sl ([.ref (a i), .int x])).length) Slot.unset).toArray = ls at hl ⊢
  have hl : lv_has ls 2 [(0, .ref (a i)), (1, .int x)] := hl
  refine lv_iload_n hx hb dX1_dirtOfFloor_0 rfl (lv_at hl 1 rfl) ?_
  refine lv_if_eq (tgt := 14) hx hb dX1_dirtOfFloor_1 (by decide) (fun c1 => ?_) (fun c1 => ?_)
  · refine lv_iconst (v := 0) hx hb dX1_dirtOfFloor_14 (by decide) ?_
    exact se_i hx hb hr hlocks hw (by unfold f_X1_dirtOfFloor; rw [if_pos c1] <;> rfl) (by rfl) dX1_dirtOfFloor_15
  · refine lv_bipush (v := 10) hx hb dX1_dirtOfFloor_4 (by decide) ?_
    refine lv_aload_n hx hb dX1_dirtOfFloor_6 rfl (lv_at hl 0 rfl) ?_
    refine sg_pf hx hb hts iX1_dirtOfFloor_X1 hown hK hw hi 0 (f 0) rfl (by decide) (hts _ mX1_dirtOfFloor_0) dX1_dirtOfFloor_7 ?_
    refine lv_imul hx hb dX1_dirtOfFloor_10 ?_
    refine lv_goto (tgt := 15) hx hb dX1_dirtOfFloor_11 (by decide) ?_
    exact se_i hx hb hr hlocks hw (by unfold f_X1_dirtOfFloor; rw [if_neg c1] <;> rfl) (by rfl) dX1_dirtOfFloor_15
