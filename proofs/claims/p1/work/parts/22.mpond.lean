set_option maxHeartbeats 4000000 in
set_option maxRecDepth 100000 in
theorem zX6_share (l : Launch) (D : va_G) (a : Nat → Nat) (cs : Nat → ClassId) (N : Nat) (hN : 10 ≤ N) (σ : sS) (x : Int32) (y : Int32) (z : Int32) : mMi l yX6_share wsX6_share ({ frames := 0, cells := 0, slots := 0, locals := 0 }) 0 0 D a cs N [.int x, .int y, .int z] σ (g_X6_share x y z) σ := by
  intro sz
  refine Met.ofW (cc := cX6_share) (maxL := 3) (ret := (some .int)) (by decide) rfl ?_
  intro p e s m args below meth c s₁ B hml hv
  obtain ⟨rfl, hsz, hv2⟩ := hv
  have hv3 : mB D a cs N σ sz s := ⟨hsz, hv2⟩
  subst hsz
  have hw := mH_start hv3
  obtain ⟨-, -, hK, -, hN2⟩ := hv3
  have hx := B.exec
  have hb := B.bytes
  have hr := B.returns
  have hts := atoms_spec (ws := wsX6_share) B.pre
  have hown : s.vm.findClass RX6 = some m.cls := findClass_of_methodNamed B.named
  have hlocks := B.notSynchronized
  have hA : ∀ q : Nat, s.heap.size ≤ q → mA a N s.heap.size q := mA_new
  have hl := lv_entry ([.int x, .int y, .int z]) (n := 3) (Nat.le_of_ble_eq_true rfl)
  rw [lg_entry_eq]
  generalize (lg_sl ([.int x, .int y, .int z]) ++ List.replicate (3 - (lg_sl ([.int x, .int y, .int z])).length) Slot.unset).toArray = ls at hl ⊢
  have hl : lv_has ls 3 [(0, .int x), (1, .int y), (2, .int z)] := hl
  refine lv_iload_n hx hb dX6_share_0 rfl (lv_at hl 2 rfl) ?_
  refine lv_if_ne (tgt := 8) hx hb dX6_share_1 (by decide) (fun c1 => ?_) (fun c1 => ?_)
  · refine lv_iload_n hx hb dX6_share_8 rfl (lv_at hl 0 rfl) ?_
    refine lv_i2l hx hb dX6_share_9 rfl ?_
    refine lv_iload_n hx hb dX6_share_10 rfl (lv_at hl 1 rfl) ?_
    refine lv_i2l hx hb dX6_share_11 rfl ?_
    refine lv_lmul hx hb dX6_share_12 ?_
    refine lv_iload_n hx hb dX6_share_13 rfl (lv_at hl 2 rfl) ?_
    refine lv_i2l hx hb dX6_share_14 rfl ?_
    refine lv_ldiv hx hb dX6_share_15 (g_ld c1) ?_
    refine lv_l2i hx hb dX6_share_16 rfl ?_
    exact me_i hx hb hr hlocks hw (by unfold g_X6_share; rw [if_neg c1] <;> rfl) (by rfl) dX6_share_17
  · refine lv_iconst (v := 0) hx hb dX6_share_4 (by decide) ?_
    refine lv_goto (tgt := 17) hx hb dX6_share_5 (by decide) ?_
    exact me_i hx hb hr hlocks hw (by unfold g_X6_share; rw [if_pos c1] <;> rfl) (by rfl) dX6_share_17
theorem mX6_tideOf_0 : (Cond.methodLink RX6 3 Lib.Math.abs.name) ∈ wsX6_tideOf := by decide +kernel
theorem mX6_tideOf_1 : (Cond.static Lib.Math.abs.name) ∈ wsX6_tideOf := by decide +kernel
theorem mX6_tideOf_2 : (Cond.initialized "java/lang/Math") ∈ wsX6_tideOf := by decide +kernel
theorem mX6_tideOf_3 : (Cond.code Lib.Math.abs.name Lib.Math.abs.code 1 (some .int)) ∈ wsX6_tideOf := by decide +kernel
set_option maxHeartbeats 4000000 in
set_option maxRecDepth 100000 in
theorem zX6_tideOf (l : Launch) (D : va_G) (a : Nat → Nat) (cs : Nat → ClassId) (N : Nat) (hN : 10 ≤ N) (σ : sS) (x : Int32) : mMi l yX6_tideOf wsX6_tideOf ({ frames := 1, cells := 0, slots := 0, locals := 25 }) 0 0 D a cs N [.int x] σ (g_X6_tideOf x) σ := by
  intro sz
  refine Met.ofW (cc := cX6_tideOf) (maxL := 1) (ret := (some .int)) (by decide) rfl ?_
  intro p e s m args below meth c s₁ B hml hv
  obtain ⟨rfl, hsz, hv2⟩ := hv
  have hv3 : mB D a cs N σ sz s := ⟨hsz, hv2⟩
  subst hsz
  have hw := mH_start hv3
  obtain ⟨-, -, hK, -, hN2⟩ := hv3
  have hx := B.exec
  have hb := B.bytes
  have hr := B.returns
  have hts := atoms_spec (ws := wsX6_tideOf) B.pre
  have hown : s.vm.findClass RX6 = some m.cls := findClass_of_methodNamed B.named
  have hlocks := B.notSynchronized
  have hA : ∀ q : Nat, s.heap.size ≤ q → mA a N s.heap.size q := mA_new
  have hl := lv_entry ([.int x]) (n := 1) (Nat.le_of_ble_eq_true rfl)
  rw [lg_entry_eq]
  generalize (lg_sl ([.int x]) ++ List.replicate (1 - (lg_sl ([.int x])).length) Slot.unset).toArray = ls at hl ⊢
  have hl : lv_has ls 1 [(0, .int x)] := hl
  refine lv_iconst (v := 2) hx hb dX6_tideOf_0 (by decide) ?_
  refine lv_iload_n hx hb dX6_tideOf_1 rfl (lv_at hl 0 rfl) ?_
  refine lv_bipush (v := 14) hx hb dX6_tideOf_2 (by decide) ?_
  refine lv_irem hx hb dX6_tideOf_4 (by decide) ?_
  refine lv_bipush (v := 7) hx hb dX6_tideOf_5 (by decide) ?_
  refine lv_isub hx hb dX6_tideOf_7 ?_
  refine va_mabs hx hb (hml.trans hl.1.symm) hown (hts _ mX6_tideOf_0) (hts _ mX6_tideOf_1) (hts _ mX6_tideOf_2) (hts _ mX6_tideOf_3) (Nat.le_of_ble_eq_true rfl) (Nat.le_of_ble_eq_true rfl) (Nat.le_of_ble_eq_true rfl) (Nat.le_of_ble_eq_true rfl) dX6_tideOf_8 ?_
  refine lw_topi (fun x1 ex1 => ?_)
  refine lv_iadd hx hb dX6_tideOf_11 ?_
  exact me_i hx hb hr hlocks hw (by subst ex1; exact rfl) (by subst ex1; rfl) dX6_tideOf_12
theorem mX4_level_0 : (Cond.fieldLink RX4 19 "SaltRowModel$Pond" "brine" "I") ∈ wsX4_level := by decide +kernel
theorem iX4_level_X4 : ∀ w ∈ wsX40, w ∈ wsX4_level := by decide +kernel
theorem mX4_level_2 : (Cond.fieldLink RX4 9 "SaltRowModel$Pond" "area" "I") ∈ wsX4_level := by decide +kernel
set_option maxHeartbeats 4000000 in
set_option maxRecDepth 100000 in
theorem zX4_level (l : Launch) (D : va_G) (a : Nat → Nat) (cs : Nat → ClassId) (N : Nat) (hN : 10 ≤ N) (σ : sS) (i : Nat) (hi : 2 ≤ i ∧ i < 10) (f : Nat → Int32)  (hne : ¬ f 0 = 0) : mMi l yX4_level wsX4_level ({ frames := 0, cells := 0, slots := 0, locals := 0 }) 0 0 D a cs N [.ref (a i)] (va_up σ i f) (g_X4_level f) (va_up σ i f) := by
  intro sz
  refine Met.ofW (cc := cX4_level) (maxL := 1) (ret := (some .int)) (by decide) rfl ?_
  intro p e s m args below meth c s₁ B hml hv
  obtain ⟨rfl, hsz, hv2⟩ := hv
  have hv3 : mB D a cs N (va_up σ i f) sz s := ⟨hsz, hv2⟩
  subst hsz
  have hw := mH_start hv3
  obtain ⟨-, -, hK, -, hN2⟩ := hv3
  have hx := B.exec
  have hb := B.bytes
  have hr := B.returns
  have hts := atoms_spec (ws := wsX4_level) B.pre
  have hown : s.vm.findClass RX4 = some m.cls := findClass_of_methodNamed B.named
  have hlocks := B.notSynchronized
  have hA : ∀ q : Nat, s.heap.size ≤ q → mA a N s.heap.size q := mA_new
  have hl := lv_entry ([.ref (a i)]) (n := 1) (Nat.le_of_ble_eq_true rfl)
  rw [lg_entry_eq]
  generalize (lg_sl ([.ref (a i)]) ++ List.replicate (1 - (lg_sl ([.ref (a i)])).length) Slot.unset).toArray = ls at hl ⊢
  have hl : lv_has ls 1 [(0, .ref (a i))] := hl
  refine lv_aload_n hx hb dX4_level_0 rfl (lv_at hl 0 rfl) ?_
  refine mg_pf hx hb hts iX4_level_X4 hown hK hw hi (by omega) 1 (f 1) rfl (by decide) (hts _ mX4_level_0) dX4_level_1 ?_
  refine lv_aload_n hx hb dX4_level_4 rfl (lv_at hl 0 rfl) ?_
  refine mg_pf hx hb hts iX4_level_X4 hown hK hw hi (by omega) 0 (f 0) rfl (by decide) (hts _ mX4_level_2) dX4_level_5 ?_
  refine lv_idiv hx hb dX4_level_8 hne ?_
  exact me_i hx hb hr hlocks hw (by exact rfl) (by rfl) dX4_level_9
theorem mX4_strength_0 : (Cond.fieldLink RX4 19 "SaltRowModel$Pond" "brine" "I") ∈ wsX4_strength := by decide +kernel
theorem iX4_strength_X4 : ∀ w ∈ wsX40, w ∈ wsX4_strength := by decide +kernel
theorem mX4_strength_2 : (Cond.constantLong RX4 47 (90)) ∈ wsX4_strength := by decide +kernel
theorem mX4_strength_3 : (Cond.fieldLink RX4 22 "SaltRowModel$Pond" "salt" "I") ∈ wsX4_strength := by decide +kernel
theorem mX4_strength_4 : (Cond.fieldLink RX4 28 "SaltRowModel$Pond" "bitter" "I") ∈ wsX4_strength := by decide +kernel
theorem mX4_strength_5 : (Cond.constantLong RX4 49 (5)) ∈ wsX4_strength := by decide +kernel
theorem mX4_strength_6 : (Cond.methodLink RX4 51 Lib.MathLoose.min_long.x) ∈ wsX4_strength := by decide +kernel
theorem mX4_strength_7 : (Cond.static Lib.MathLoose.min_long.x) ∈ wsX4_strength := by decide +kernel
theorem mX4_strength_8 : (Cond.initialized "java/lang/Math") ∈ wsX4_strength := by decide +kernel
theorem mX4_strength_9 : (Cond.code Lib.MathLoose.min_long.x Lib.MathLoose.min_long.code 4 (some .long)) ∈ wsX4_strength := by decide +kernel
set_option maxHeartbeats 4000000 in
set_option maxRecDepth 100000 in
theorem zX4_strength (l : Launch) (D : va_G) (a : Nat → Nat) (cs : Nat → ClassId) (N : Nat) (hN : 10 ≤ N) (σ : sS) (i : Nat) (hi : 2 ≤ i ∧ i < 10) (f : Nat → Int32)  : mMi l yX4_strength wsX4_strength ({ frames := 1, cells := 0, slots := 0, locals := 25 }) 0 0 D a cs N [.ref (a i)] (va_up σ i f) (g_X4_strength f) (va_up σ i f) := by
  intro sz
  refine Met.ofW (cc := cX4_strength) (maxL := 1) (ret := (some .int)) (by decide) rfl ?_
  intro p e s m args below meth c s₁ B hml hv
  obtain ⟨rfl, hsz, hv2⟩ := hv
  have hv3 : mB D a cs N (va_up σ i f) sz s := ⟨hsz, hv2⟩
  subst hsz
  have hw := mH_start hv3
  obtain ⟨-, -, hK, -, hN2⟩ := hv3
  have hx := B.exec
  have hb := B.bytes
  have hr := B.returns
  have hts := atoms_spec (ws := wsX4_strength) B.pre
  have hown : s.vm.findClass RX4 = some m.cls := findClass_of_methodNamed B.named
  have hlocks := B.notSynchronized
  have hA : ∀ q : Nat, s.heap.size ≤ q → mA a N s.heap.size q := mA_new
  have hl := lv_entry ([.ref (a i)]) (n := 1) (Nat.le_of_ble_eq_true rfl)
  rw [lg_entry_eq]
  generalize (lg_sl ([.ref (a i)]) ++ List.replicate (1 - (lg_sl ([.ref (a i)])).length) Slot.unset).toArray = ls at hl ⊢
  have hl : lv_has ls 1 [(0, .ref (a i))] := hl
  refine lv_aload_n hx hb dX4_strength_0 rfl (lv_at hl 0 rfl) ?_
  refine mg_pf hx hb hts iX4_strength_X4 hown hK hw hi (by omega) 1 (f 1) rfl (by decide) (hts _ mX4_strength_0) dX4_strength_1 ?_
  refine lv_if_ne (tgt := 11) hx hb dX4_strength_4 (by decide) (fun c1 => ?_) (fun c1 => ?_)
  · refine lv_ldc2 (v := 90) hx hb hown (hts _ mX4_strength_2) dX4_strength_11 ?_
    refine lv_aload_n hx hb dX4_strength_14 rfl (lv_at hl 0 rfl) ?_
    refine mg_pf hx hb hts iX4_strength_X4 hown hK hw hi (by omega) 2 (f 2) rfl (by decide) (hts _ mX4_strength_3) dX4_strength_15 ?_
    refine lv_i2l hx hb dX4_strength_18 rfl ?_
    refine lv_aload_n hx hb dX4_strength_19 rfl (lv_at hl 0 rfl) ?_
    refine mg_pf hx hb hts iX4_strength_X4 hown hK hw hi (by omega) 4 (f 4) rfl (by decide) (hts _ mX4_strength_4) dX4_strength_20 ?_
    refine lv_i2l hx hb dX4_strength_23 rfl ?_
    refine lv_ladd hx hb dX4_strength_24 ?_
    refine lv_ldc2 (v := 5) hx hb hown (hts _ mX4_strength_5) dX4_strength_25 ?_
    refine lv_aload_n hx hb dX4_strength_28 rfl (lv_at hl 0 rfl) ?_
    refine mg_pf hx hb hts iX4_strength_X4 hown hK hw hi (by omega) 1 (f 1) rfl (by decide) (hts _ mX4_strength_0) dX4_strength_29 ?_
    refine lv_i2l hx hb dX4_strength_32 rfl ?_
    refine lv_lmul hx hb dX4_strength_33 ?_
    refine lv_ldiv hx hb dX4_strength_34 (g_l5 c1) ?_
    refine va_mmin_long hx hb (hml.trans hl.1.symm) hown (hts _ mX4_strength_6) (hts _ mX4_strength_7) (hts _ mX4_strength_8) (hts _ mX4_strength_9) (Nat.le_of_ble_eq_true rfl) (Nat.le_of_ble_eq_true rfl) (Nat.le_of_ble_eq_true rfl) (Nat.le_of_ble_eq_true rfl) dX4_strength_35 ?_
    refine lw_topl (fun x2 ex2 => ?_)
    refine lv_l2i hx hb dX4_strength_38 rfl ?_
    exact me_i hx hb hr hlocks hw (by subst ex2; unfold g_X4_strength; rw [if_neg c1] <;> rfl) (by subst ex2; rfl) dX4_strength_39
  · refine lv_iconst (v := 0) hx hb dX4_strength_7 (by decide) ?_
    refine lv_goto (tgt := 39) hx hb dX4_strength_8 (by decide) ?_
    exact me_i hx hb hr hlocks hw (by unfold g_X4_strength; rw [if_pos c1] <;> rfl) (by rfl) dX4_strength_39
theorem mX4_dry_0 : (Cond.fieldLink RX4 9 "SaltRowModel$Pond" "area" "I") ∈ wsX4_dry := by decide +kernel
theorem iX4_dry_X4 : ∀ w ∈ wsX40, w ∈ wsX4_dry := by decide +kernel
theorem mX4_dry_2 : (Cond.fieldLink RX4 31 "SaltRowModel$Pond" "fresh" "I") ∈ wsX4_dry := by decide +kernel
theorem mX4_dry_3 : (Cond.methodLink RX4 61 Lib.Math.min.name) ∈ wsX4_dry := by decide +kernel
theorem mX4_dry_4 : (Cond.static Lib.Math.min.name) ∈ wsX4_dry := by decide +kernel
theorem mX4_dry_5 : (Cond.initialized "java/lang/Math") ∈ wsX4_dry := by decide +kernel
theorem mX4_dry_6 : (Cond.code Lib.Math.min.name Lib.Math.min.code 2 (some .int)) ∈ wsX4_dry := by decide +kernel
theorem mX4_dry_7 : (Cond.fieldLink RX4 19 "SaltRowModel$Pond" "brine" "I") ∈ wsX4_dry := by decide +kernel
set_option maxHeartbeats 4000000 in
set_option maxRecDepth 100000 in
theorem zX4_dry (l : Launch) (D : va_G) (a : Nat → Nat) (cs : Nat → ClassId) (N : Nat) (hN : 10 ≤ N) (σ : sS) (i : Nat) (hi : 2 ≤ i ∧ i < 10) (f : Nat → Int32) (x : Int32) : mMv l yX4_dry wsX4_dry ({ frames := 2, cells := 0, slots := 0, locals := 45 }) 0 0 D a cs N [.ref (a i), .int x] (va_up σ i f) (va_up σ i (g_X4_dry f x)) := by
  intro sz
  refine Met.ofW (cc := cX4_dry) (maxL := 5) (ret := none) (by decide) rfl ?_
  intro p e s m args below meth c s₁ B hml hv
  obtain ⟨rfl, hsz, hv2⟩ := hv
  have hv3 : mB D a cs N (va_up σ i f) sz s := ⟨hsz, hv2⟩
  subst hsz
  have hw := mH_start hv3
  obtain ⟨-, -, hK, -, hN2⟩ := hv3
  have hx := B.exec
  have hb := B.bytes
  have hr := B.returns
  have hts := atoms_spec (ws := wsX4_dry) B.pre
  have hown : s.vm.findClass RX4 = some m.cls := findClass_of_methodNamed B.named
  have hlocks := B.notSynchronized
  have hA : ∀ q : Nat, s.heap.size ≤ q → mA a N s.heap.size q := mA_new
  have hl := lv_entry ([.ref (a i), .int x]) (n := 5) (Nat.le_of_ble_eq_true rfl)
  rw [lg_entry_eq]
  generalize (lg_sl ([.ref (a i), .int x]) ++ List.replicate (5 - (lg_sl ([.ref (a i), .int x])).length) Slot.unset).toArray = ls at hl ⊢
  have hl : lv_has ls 5 [(0, .ref (a i)), (1, .int x)] := hl
  refine lv_aload_n hx hb dX4_dry_0 rfl (lv_at hl 0 rfl) ?_
  refine mg_pf hx hb hts iX4_dry_X4 hown hK hw hi (by omega) 0 (f 0) rfl (by decide) (hts _ mX4_dry_0) dX4_dry_1 ?_
  refine lv_iload_n hx hb dX4_dry_4 rfl (lv_at hl 1 rfl) ?_
  refine lv_imul hx hb dX4_dry_5 ?_
  refine lv_istore_n (lv' := [(2, .int ((f 0) * x)), (0, .ref (a i)), (1, .int x)]) hx hb dX4_dry_6 rfl hl (by decide) rfl (fun ls hl => ?_)
  refine lv_aload_n hx hb dX4_dry_7 rfl (lv_at hl 1 rfl) ?_
  refine mg_pf hx hb hts iX4_dry_X4 hown hK hw hi (by omega) 5 (f 5) rfl (by decide) (hts _ mX4_dry_2) dX4_dry_8 ?_
  refine lv_iload_n hx hb dX4_dry_11 rfl (lv_at hl 0 rfl) ?_
  refine lv_bipush (v := 10) hx hb dX4_dry_12 (by decide) ?_
  refine lv_idiv hx hb dX4_dry_14 (by decide) ?_
  refine va_mmin hx hb (hml.trans hl.1.symm) hown (hts _ mX4_dry_3) (hts _ mX4_dry_4) (hts _ mX4_dry_5) (hts _ mX4_dry_6) (Nat.le_of_ble_eq_true rfl) (Nat.le_of_ble_eq_true rfl) (Nat.le_of_ble_eq_true rfl) (Nat.le_of_ble_eq_true rfl) dX4_dry_15 ?_
  refine lw_topi (fun x1 ex1 => ?_)
  refine lv_istore_n (lv' := [(3, .int x1), (2, .int ((f 0) * x)), (0, .ref (a i)), (1, .int x)]) hx hb dX4_dry_18 rfl hl (by decide) rfl (fun ls hl => ?_)
  refine lv_iload_n hx hb dX4_dry_19 rfl (lv_at hl 1 rfl) ?_
  refine lv_bipush (v := 10) hx hb dX4_dry_20 (by decide) ?_
  refine lv_iload_n hx hb dX4_dry_22 rfl (lv_at hl 0 rfl) ?_
  refine lv_imul hx hb dX4_dry_23 ?_
  refine lv_isub hx hb dX4_dry_24 ?_
  refine lv_bipush (v := 100) hx hb dX4_dry_25 (by decide) ?_
  refine lv_aload_n hx hb dX4_dry_27 rfl (lv_at hl 2 rfl) ?_
  refine mc_i (mr_V (i := i) (As := []) (rest := [.int 100, .int (((f 0) * x) - (10 * x1))]) ⟨hx, hb, hml, hown, hts⟩ (zX4_strength l D a cs N (by omega) _ i hi _ _) (cwV 0 hts gX4_dry_X4_strength rfl rfl rfl (by decide +kernel) ⟨Nat.le_of_ble_eq_true rfl, Nat.le_of_ble_eq_true rfl⟩) hK hN2 hw (by omega) (mE_p hi) kcX4 rfl hl.1 (Nat.le_of_ble_eq_true rfl) dX4_dry_28 ⟨Nat.le_of_ble_eq_true rfl, Nat.le_of_ble_eq_true rfl⟩) hw hA (fun H locs hw => ?_)
  refine lv_isub hx hb dX4_dry_31 ?_
  refine lv_imul hx hb dX4_dry_32 ?_
  refine lw_topi (fun x2 ex2 => ?_)
  refine lv_istore (lv' := [(4, .int x2), (3, .int x1), (2, .int ((f 0) * x)), (0, .ref (a i)), (1, .int x)]) hx hb dX4_dry_33 hl (by decide) rfl (fun ls hl => ?_)
  refine lv_aload_n hx hb dX4_dry_35 rfl (lv_at hl 3 rfl) ?_
  refine lv_dup hx hb dX4_dry_36 rfl ?_
  refine mg_pf hx hb hts iX4_dry_X4 hown hK hw hi (by omega) 5 (f 5) rfl (by decide) (hts _ mX4_dry_2) dX4_dry_37 ?_
  refine lv_iload_n hx hb dX4_dry_40 rfl (lv_at hl 1 rfl) ?_
  refine lv_isub hx hb dX4_dry_41 ?_
  refine mp_pf hx hb hts iX4_dry_X4 hown hK hw hi (by omega) 5 (by decide) (hts _ mX4_dry_2) dX4_dry_42 (fun H locs hw => ?_)
  refine lv_aload_n hx hb dX4_dry_45 rfl (lv_at hl 3 rfl) ?_
  refine lv_dup hx hb dX4_dry_46 rfl ?_
  refine mg_pf hx hb hts iX4_dry_X4 hown hK hw hi (by omega) 1 (f 1) rfl (by decide) (hts _ mX4_dry_7) dX4_dry_47 ?_
  refine lv_aload_n hx hb dX4_dry_50 rfl (lv_at hl 3 rfl) ?_
  refine mg_pf hx hb hts iX4_dry_X4 hown hK hw hi (by omega) 1 (f 1) rfl (by decide) (hts _ mX4_dry_7) dX4_dry_51 ?_
  refine lv_iconst (v := 2) hx hb dX4_dry_54 (by decide) ?_
  refine lv_idiv hx hb dX4_dry_55 (by decide) ?_
  refine lv_iload hx hb dX4_dry_56 (lv_at hl 0 rfl) ?_
  refine lv_sipush (v := 999) hx hb dX4_dry_58 (by decide) ?_
  refine lv_iadd hx hb dX4_dry_61 ?_
  refine lv_sipush (v := 1000) hx hb dX4_dry_62 (by decide) ?_
  refine lv_idiv hx hb dX4_dry_65 (by decide) ?_
  refine va_mmin hx hb (hml.trans hl.1.symm) hown (hts _ mX4_dry_3) (hts _ mX4_dry_4) (hts _ mX4_dry_5) (hts _ mX4_dry_6) (Nat.le_of_ble_eq_true rfl) (Nat.le_of_ble_eq_true rfl) (Nat.le_of_ble_eq_true rfl) (Nat.le_of_ble_eq_true rfl) dX4_dry_66 ?_
  refine lw_topi (fun x3 ex3 => ?_)
  refine lv_isub hx hb dX4_dry_69 ?_
  refine mp_pf hx hb hts iX4_dry_X4 hown hK hw hi (by omega) 1 (by decide) (hts _ mX4_dry_7) dX4_dry_70 (fun H locs hw => ?_)
  exact me_v hx hb hr hlocks hw (by subst ex3 ex2 ex1; exact rfl) dX4_dry_73
theorem mX4_mix_0 : (Cond.fieldLink RX4 31 "SaltRowModel$Pond" "fresh" "I") ∈ wsX4_mix := by decide +kernel
theorem iX4_mix_X4 : ∀ w ∈ wsX40, w ∈ wsX4_mix := by decide +kernel
theorem mX4_mix_2 : (Cond.fieldLink RX4 19 "SaltRowModel$Pond" "brine" "I") ∈ wsX4_mix := by decide +kernel
theorem mX4_mix_3 : (Cond.fieldLink RX4 34 "SaltRowModel$Pond" "crust" "I") ∈ wsX4_mix := by decide +kernel
theorem mX4_mix_4 : (Cond.methodLink RX4 61 Lib.Math.min.name) ∈ wsX4_mix := by decide +kernel
theorem mX4_mix_5 : (Cond.static Lib.Math.min.name) ∈ wsX4_mix := by decide +kernel
theorem mX4_mix_6 : (Cond.initialized "java/lang/Math") ∈ wsX4_mix := by decide +kernel
theorem mX4_mix_7 : (Cond.code Lib.Math.min.name Lib.Math.min.code 2 (some .int)) ∈ wsX4_mix := by decide +kernel
theorem mX4_mix_8 : (Cond.fieldLink RX4 22 "SaltRowModel$Pond" "salt" "I") ∈ wsX4_mix := by decide +kernel
set_option maxHeartbeats 4000000 in
set_option maxRecDepth 100000 in
theorem zX4_mix (l : Launch) (D : va_G) (a : Nat → Nat) (cs : Nat → ClassId) (N : Nat) (hN : 10 ≤ N) (σ : sS) (i : Nat) (hi : 2 ≤ i ∧ i < 10) (f : Nat → Int32)  : mMv l yX4_mix wsX4_mix ({ frames := 1, cells := 0, slots := 0, locals := 25 }) 0 0 D a cs N [.ref (a i)] (va_up σ i f) (va_up σ i (g_X4_mix f)) := by
  intro sz
  refine Met.ofW (cc := cX4_mix) (maxL := 3) (ret := none) (by decide) rfl ?_
  intro p e s m args below meth c s₁ B hml hv
  obtain ⟨rfl, hsz, hv2⟩ := hv
  have hv3 : mB D a cs N (va_up σ i f) sz s := ⟨hsz, hv2⟩
  subst hsz
  have hw := mH_start hv3
  obtain ⟨-, -, hK, -, hN2⟩ := hv3
  have hx := B.exec
  have hb := B.bytes
  have hr := B.returns
  have hts := atoms_spec (ws := wsX4_mix) B.pre
  have hown : s.vm.findClass RX4 = some m.cls := findClass_of_methodNamed B.named
  have hlocks := B.notSynchronized
  have hA : ∀ q : Nat, s.heap.size ≤ q → mA a N s.heap.size q := mA_new
  have hl := lv_entry ([.ref (a i)]) (n := 3) (Nat.le_of_ble_eq_true rfl)
  rw [lg_entry_eq]
  generalize (lg_sl ([.ref (a i)]) ++ List.replicate (3 - (lg_sl ([.ref (a i)])).length) Slot.unset).toArray = ls at hl ⊢
  have hl : lv_has ls 3 [(0, .ref (a i))] := hl
  refine lv_aload_n hx hb dX4_mix_0 rfl (lv_at hl 0 rfl) ?_
  refine mg_pf hx hb hts iX4_mix_X4 hown hK hw hi (by omega) 5 (f 5) rfl (by decide) (hts _ mX4_mix_0) dX4_mix_1 ?_
  refine lv_iconst (v := 1) hx hb dX4_mix_4 (by decide) ?_
  refine lv_iadd hx hb dX4_mix_5 ?_
  refine lv_iconst (v := 2) hx hb dX4_mix_6 (by decide) ?_
  refine lv_idiv hx hb dX4_mix_7 (by decide) ?_
  refine lv_istore_n (lv' := [(1, .int (((f 5) + 1) / 2)), (0, .ref (a i))]) hx hb dX4_mix_8 rfl hl (by decide) rfl (fun ls hl => ?_)
  refine lv_aload_n hx hb dX4_mix_9 rfl (lv_at hl 1 rfl) ?_
  refine lv_dup hx hb dX4_mix_10 rfl ?_
  refine mg_pf hx hb hts iX4_mix_X4 hown hK hw hi (by omega) 5 (f 5) rfl (by decide) (hts _ mX4_mix_0) dX4_mix_11 ?_
  refine lv_iload_n hx hb dX4_mix_14 rfl (lv_at hl 0 rfl) ?_
  refine lv_isub hx hb dX4_mix_15 ?_
  refine lw_topi (fun x1 ex1 => ?_)
  refine mp_pf hx hb hts iX4_mix_X4 hown hK hw hi (by omega) 5 (by decide) (hts _ mX4_mix_0) dX4_mix_16 (fun H locs hw => ?_)
  refine lv_aload_n hx hb dX4_mix_19 rfl (lv_at hl 1 rfl) ?_
  refine lv_dup hx hb dX4_mix_20 rfl ?_
  refine mg_pf hx hb hts iX4_mix_X4 hown hK hw hi (by omega) 1 (f 1) rfl (by decide) (hts _ mX4_mix_2) dX4_mix_21 ?_
  refine lv_iload_n hx hb dX4_mix_24 rfl (lv_at hl 0 rfl) ?_
  refine lv_iadd hx hb dX4_mix_25 ?_
  refine lw_topi (fun x2 ex2 => ?_)
  refine mp_pf hx hb hts iX4_mix_X4 hown hK hw hi (by omega) 1 (by decide) (hts _ mX4_mix_2) dX4_mix_26 (fun H locs hw => ?_)
  refine lv_aload_n hx hb dX4_mix_29 rfl (lv_at hl 1 rfl) ?_
  refine mg_pf hx hb hts iX4_mix_X4 hown hK hw hi (by omega) 6 (f 6) rfl (by decide) (hts _ mX4_mix_3) dX4_mix_30 ?_
  refine lv_iconst (v := 4) hx hb dX4_mix_33 (by decide) ?_
  refine lv_iload_n hx hb dX4_mix_34 rfl (lv_at hl 0 rfl) ?_
  refine lv_imul hx hb dX4_mix_35 ?_
  refine va_mmin hx hb (hml.trans hl.1.symm) hown (hts _ mX4_mix_4) (hts _ mX4_mix_5) (hts _ mX4_mix_6) (hts _ mX4_mix_7) (Nat.le_of_ble_eq_true rfl) (Nat.le_of_ble_eq_true rfl) (Nat.le_of_ble_eq_true rfl) (Nat.le_of_ble_eq_true rfl) dX4_mix_36 ?_
  refine lw_topi (fun x3 ex3 => ?_)
  refine lv_istore_n (lv' := [(2, .int x3), (1, .int (((f 5) + 1) / 2)), (0, .ref (a i))]) hx hb dX4_mix_39 rfl hl (by decide) rfl (fun ls hl => ?_)
  refine lv_aload_n hx hb dX4_mix_40 rfl (lv_at hl 2 rfl) ?_
  refine lv_dup hx hb dX4_mix_41 rfl ?_
  refine mg_pf hx hb hts iX4_mix_X4 hown hK hw hi (by omega) 6 (f 6) rfl (by decide) (hts _ mX4_mix_3) dX4_mix_42 ?_
  refine lv_iload_n hx hb dX4_mix_45 rfl (lv_at hl 0 rfl) ?_
  refine lv_isub hx hb dX4_mix_46 ?_
  refine mp_pf hx hb hts iX4_mix_X4 hown hK hw hi (by omega) 6 (by decide) (hts _ mX4_mix_3) dX4_mix_47 (fun H locs hw => ?_)
  refine lv_aload_n hx hb dX4_mix_50 rfl (lv_at hl 2 rfl) ?_
  refine lv_dup hx hb dX4_mix_51 rfl ?_
  refine mg_pf hx hb hts iX4_mix_X4 hown hK hw hi (by omega) 2 (f 2) rfl (by decide) (hts _ mX4_mix_8) dX4_mix_52 ?_
  refine lv_iload_n hx hb dX4_mix_55 rfl (lv_at hl 0 rfl) ?_
  refine lv_iadd hx hb dX4_mix_56 ?_
  refine mp_pf hx hb hts iX4_mix_X4 hown hK hw hi (by omega) 2 (by decide) (hts _ mX4_mix_8) dX4_mix_57 (fun H locs hw => ?_)
  exact me_v hx hb hr hlocks hw (by subst ex3 ex2 ex1; exact rfl) dX4_mix_60
theorem mX4_fall_0 : (Cond.fieldLink RX4 25 "SaltRowModel$Pond" "gypsum" "I") ∈ wsX4_fall := by decide +kernel
theorem iX4_fall_X4 : ∀ w ∈ wsX40, w ∈ wsX4_fall := by decide +kernel
theorem mX4_fall_2 : (Cond.constantLong RX4 68 (8)) ∈ wsX4_fall := by decide +kernel
theorem mX4_fall_3 : (Cond.fieldLink RX4 19 "SaltRowModel$Pond" "brine" "I") ∈ wsX4_fall := by decide +kernel
theorem mX4_fall_4 : (Cond.methodLink RX4 70 Lib.MathLoose.max_long.x) ∈ wsX4_fall := by decide +kernel
theorem mX4_fall_5 : (Cond.static Lib.MathLoose.max_long.x) ∈ wsX4_fall := by decide +kernel
theorem mX4_fall_6 : (Cond.initialized "java/lang/Math") ∈ wsX4_fall := by decide +kernel
theorem mX4_fall_7 : (Cond.code Lib.MathLoose.max_long.x Lib.MathLoose.max_long.code 4 (some .long)) ∈ wsX4_fall := by decide +kernel
theorem mX4_fall_8 : (Cond.fieldLink RX4 22 "SaltRowModel$Pond" "salt" "I") ∈ wsX4_fall := by decide +kernel
theorem mX4_fall_9 : (Cond.constantLong RX4 73 (300)) ∈ wsX4_fall := by decide +kernel
theorem mX4_fall_10 : (Cond.fieldLink RX4 28 "SaltRowModel$Pond" "bitter" "I") ∈ wsX4_fall := by decide +kernel
theorem mX4_fall_11 : (Cond.constantLong RX4 75 (200)) ∈ wsX4_fall := by decide +kernel
theorem mX4_fall_12 : (Cond.fieldLink RX4 37 "SaltRowModel$Pond" "dirt" "I") ∈ wsX4_fall := by decide +kernel
theorem mX4_fall_13 : (Cond.fieldLink RX4 34 "SaltRowModel$Pond" "crust" "I") ∈ wsX4_fall := by decide +kernel
set_option maxHeartbeats 4000000 in
set_option maxRecDepth 100000 in
theorem zX4_fall (l : Launch) (D : va_G) (a : Nat → Nat) (cs : Nat → ClassId) (N : Nat) (hN : 10 ≤ N) (σ : sS) (i : Nat) (hi : 2 ≤ i ∧ i < 10) (f : Nat → Int32)  : mMi l yX4_fall wsX4_fall ({ frames := 1, cells := 0, slots := 0, locals := 25 }) 0 0 D a cs N [.ref (a i)] (va_up σ i f) (g_X4_fallV f) (va_up σ i (g_X4_fall f)) := by
  intro sz
  refine Met.ofW (cc := cX4_fall) (maxL := 4) (ret := (some .int)) (by decide) rfl ?_
  intro p e s m args below meth c s₁ B hml hv
  obtain ⟨rfl, hsz, hv2⟩ := hv
  have hv3 : mB D a cs N (va_up σ i f) sz s := ⟨hsz, hv2⟩
  subst hsz
  have hw := mH_start hv3
  obtain ⟨-, -, hK, -, hN2⟩ := hv3
  have hx := B.exec
  have hb := B.bytes
  have hr := B.returns
  have hts := atoms_spec (ws := wsX4_fall) B.pre
  have hown : s.vm.findClass RX4 = some m.cls := findClass_of_methodNamed B.named
  have hlocks := B.notSynchronized
  have hA : ∀ q : Nat, s.heap.size ≤ q → mA a N s.heap.size q := mA_new
  have hl := lv_entry ([.ref (a i)]) (n := 4) (Nat.le_of_ble_eq_true rfl)
  rw [lg_entry_eq]
  generalize (lg_sl ([.ref (a i)]) ++ List.replicate (4 - (lg_sl ([.ref (a i)])).length) Slot.unset).toArray = ls at hl ⊢
  have hl : lv_has ls 4 [(0, .ref (a i))] := hl
  refine lv_lconst (v := 0) hx hb dX4_fall_0 (by decide) ?_
  refine lv_aload_n hx hb dX4_fall_1 rfl (lv_at hl 0 rfl) ?_
  refine mg_pf hx hb hts iX4_fall_X4 hown hK hw hi (by omega) 3 (f 3) rfl (by decide) (hts _ mX4_fall_0) dX4_fall_2 ?_
  refine lv_i2l hx hb dX4_fall_5 rfl ?_
  refine lv_ldc2 (v := 8) hx hb hown (hts _ mX4_fall_2) dX4_fall_6 ?_
  refine lv_aload_n hx hb dX4_fall_9 rfl (lv_at hl 0 rfl) ?_
  refine mg_pf hx hb hts iX4_fall_X4 hown hK hw hi (by omega) 1 (f 1) rfl (by decide) (hts _ mX4_fall_3) dX4_fall_10 ?_
  refine lv_i2l hx hb dX4_fall_13 rfl ?_
  refine lv_lmul hx hb dX4_fall_14 ?_
  refine lv_lsub hx hb dX4_fall_15 ?_
  refine va_mmax_long hx hb (hml.trans hl.1.symm) hown (hts _ mX4_fall_4) (hts _ mX4_fall_5) (hts _ mX4_fall_6) (hts _ mX4_fall_7) (Nat.le_of_ble_eq_true rfl) (Nat.le_of_ble_eq_true rfl) (Nat.le_of_ble_eq_true rfl) (Nat.le_of_ble_eq_true rfl) dX4_fall_16 ?_
  refine lw_topl (fun x1 ex1 => ?_)
  refine lv_l2i hx hb dX4_fall_19 rfl ?_
  refine lv_istore_n (lv' := [(1, .int x1.toInt32), (0, .ref (a i))]) hx hb dX4_fall_20 rfl hl (by decide) rfl (fun ls hl => ?_)
  refine lv_lconst (v := 0) hx hb dX4_fall_21 (by decide) ?_
  refine lv_aload_n hx hb dX4_fall_22 rfl (lv_at hl 1 rfl) ?_
  refine mg_pf hx hb hts iX4_fall_X4 hown hK hw hi (by omega) 2 (f 2) rfl (by decide) (hts _ mX4_fall_8) dX4_fall_23 ?_
  refine lv_i2l hx hb dX4_fall_26 rfl ?_
  refine lv_ldc2 (v := 300) hx hb hown (hts _ mX4_fall_9) dX4_fall_27 ?_
  refine lv_aload_n hx hb dX4_fall_30 rfl (lv_at hl 1 rfl) ?_
  refine mg_pf hx hb hts iX4_fall_X4 hown hK hw hi (by omega) 1 (f 1) rfl (by decide) (hts _ mX4_fall_3) dX4_fall_31 ?_
  refine lv_i2l hx hb dX4_fall_34 rfl ?_
  refine lv_lmul hx hb dX4_fall_35 ?_
  refine lv_lsub hx hb dX4_fall_36 ?_
  refine va_mmax_long hx hb (hml.trans hl.1.symm) hown (hts _ mX4_fall_4) (hts _ mX4_fall_5) (hts _ mX4_fall_6) (hts _ mX4_fall_7) (Nat.le_of_ble_eq_true rfl) (Nat.le_of_ble_eq_true rfl) (Nat.le_of_ble_eq_true rfl) (Nat.le_of_ble_eq_true rfl) dX4_fall_37 ?_
  refine lw_topl (fun x2 ex2 => ?_)
  refine lv_l2i hx hb dX4_fall_40 rfl ?_
  refine lv_istore_n (lv' := [(2, .int x2.toInt32), (1, .int x1.toInt32), (0, .ref (a i))]) hx hb dX4_fall_41 rfl hl (by decide) rfl (fun ls hl => ?_)
  refine lv_lconst (v := 0) hx hb dX4_fall_42 (by decide) ?_
  refine lv_aload_n hx hb dX4_fall_43 rfl (lv_at hl 2 rfl) ?_
  refine mg_pf hx hb hts iX4_fall_X4 hown hK hw hi (by omega) 4 (f 4) rfl (by decide) (hts _ mX4_fall_10) dX4_fall_44 ?_
  refine lv_i2l hx hb dX4_fall_47 rfl ?_
  refine lv_ldc2 (v := 200) hx hb hown (hts _ mX4_fall_11) dX4_fall_48 ?_
  refine lv_aload_n hx hb dX4_fall_51 rfl (lv_at hl 2 rfl) ?_
  refine mg_pf hx hb hts iX4_fall_X4 hown hK hw hi (by omega) 1 (f 1) rfl (by decide) (hts _ mX4_fall_3) dX4_fall_52 ?_
  refine lv_i2l hx hb dX4_fall_55 rfl ?_
  refine lv_lmul hx hb dX4_fall_56 ?_
  refine lv_lsub hx hb dX4_fall_57 ?_
  refine va_mmax_long hx hb (hml.trans hl.1.symm) hown (hts _ mX4_fall_4) (hts _ mX4_fall_5) (hts _ mX4_fall_6) (hts _ mX4_fall_7) (Nat.le_of_ble_eq_true rfl) (Nat.le_of_ble_eq_true rfl) (Nat.le_of_ble_eq_true rfl) (Nat.le_of_ble_eq_true rfl) dX4_fall_58 ?_
  refine lw_topl (fun x3 ex3 => ?_)
  refine lv_l2i hx hb dX4_fall_61 rfl ?_
  refine lv_istore_n (lv' := [(3, .int x3.toInt32), (2, .int x2.toInt32), (1, .int x1.toInt32), (0, .ref (a i))]) hx hb dX4_fall_62 rfl hl (by decide) rfl (fun ls hl => ?_)
  refine lv_aload_n hx hb dX4_fall_63 rfl (lv_at hl 3 rfl) ?_
  refine lv_dup hx hb dX4_fall_64 rfl ?_
  refine mg_pf hx hb hts iX4_fall_X4 hown hK hw hi (by omega) 3 (f 3) rfl (by decide) (hts _ mX4_fall_0) dX4_fall_65 ?_
  refine lv_iload_n hx hb dX4_fall_68 rfl (lv_at hl 2 rfl) ?_
  refine lv_isub hx hb dX4_fall_69 ?_
  refine mp_pf hx hb hts iX4_fall_X4 hown hK hw hi (by omega) 3 (by decide) (hts _ mX4_fall_0) dX4_fall_70 (fun H locs hw => ?_)
  refine lv_aload_n hx hb dX4_fall_73 rfl (lv_at hl 3 rfl) ?_
  refine lv_dup hx hb dX4_fall_74 rfl ?_
  refine mg_pf hx hb hts iX4_fall_X4 hown hK hw hi (by omega) 2 (f 2) rfl (by decide) (hts _ mX4_fall_8) dX4_fall_75 ?_
  refine lv_iload_n hx hb dX4_fall_78 rfl (lv_at hl 1 rfl) ?_
  refine lv_isub hx hb dX4_fall_79 ?_
  refine mp_pf hx hb hts iX4_fall_X4 hown hK hw hi (by omega) 2 (by decide) (hts _ mX4_fall_8) dX4_fall_80 (fun H locs hw => ?_)
  refine lv_aload_n hx hb dX4_fall_83 rfl (lv_at hl 3 rfl) ?_
  refine lv_dup hx hb dX4_fall_84 rfl ?_
  refine mg_pf hx hb hts iX4_fall_X4 hown hK hw hi (by omega) 4 (f 4) rfl (by decide) (hts _ mX4_fall_10) dX4_fall_85 ?_
  refine lv_iload_n hx hb dX4_fall_88 rfl (lv_at hl 0 rfl) ?_
  refine lv_isub hx hb dX4_fall_89 ?_
  refine mp_pf hx hb hts iX4_fall_X4 hown hK hw hi (by omega) 4 (by decide) (hts _ mX4_fall_10) dX4_fall_90 (fun H locs hw => ?_)
  refine lv_aload_n hx hb dX4_fall_93 rfl (lv_at hl 3 rfl) ?_
  refine lv_dup hx hb dX4_fall_94 rfl ?_
  refine mg_pf hx hb hts iX4_fall_X4 hown hK hw hi (by omega) 7 (f 7) rfl (by decide) (hts _ mX4_fall_12) dX4_fall_95 ?_
  refine lv_iload_n hx hb dX4_fall_98 rfl (lv_at hl 2 rfl) ?_
  refine lv_iload_n hx hb dX4_fall_99 rfl (lv_at hl 0 rfl) ?_
  refine lv_iadd hx hb dX4_fall_100 ?_
  refine lv_iadd hx hb dX4_fall_101 ?_
  refine lw_topi (fun x4 ex4 => ?_)
  refine mp_pf hx hb hts iX4_fall_X4 hown hK hw hi (by omega) 7 (by decide) (hts _ mX4_fall_12) dX4_fall_102 (fun H locs hw => ?_)
  refine lv_aload_n hx hb dX4_fall_105 rfl (lv_at hl 3 rfl) ?_
  refine lv_dup hx hb dX4_fall_106 rfl ?_
  refine mg_pf hx hb hts iX4_fall_X4 hown hK hw hi (by omega) 6 (f 6) rfl (by decide) (hts _ mX4_fall_13) dX4_fall_107 ?_
  refine lv_iload_n hx hb dX4_fall_110 rfl (lv_at hl 1 rfl) ?_
  refine lv_iadd hx hb dX4_fall_111 ?_
  refine mp_pf hx hb hts iX4_fall_X4 hown hK hw hi (by omega) 6 (by decide) (hts _ mX4_fall_13) dX4_fall_112 (fun H locs hw => ?_)
  refine lv_iload_n hx hb dX4_fall_115 rfl (lv_at hl 1 rfl) ?_
  exact me_i hx hb hr hlocks hw (by subst ex4 ex3 ex2 ex1; rfl) (by subst ex4 ex3 ex2 ex1; rfl) dX4_fall_116
theorem mX4_give_0 : (Cond.fieldLink RX4 22 "SaltRowModel$Pond" "salt" "I") ∈ wsX4_give := by decide +kernel
theorem iX4_give_X4 : ∀ w ∈ wsX40, w ∈ wsX4_give := by decide +kernel
theorem mX4_give_2 : (Cond.fieldLink RX4 19 "SaltRowModel$Pond" "brine" "I") ∈ wsX4_give := by decide +kernel
theorem mX4_give_3 : (Cond.initialized RX6) ∈ wsX4_give := by decide +kernel
theorem mX4_give_4 : (Cond.static yX6_share) ∈ wsX4_give := by decide +kernel
theorem mX4_give_5 : (Cond.fieldLink RX4 25 "SaltRowModel$Pond" "gypsum" "I") ∈ wsX4_give := by decide +kernel
theorem mX4_give_6 : (Cond.fieldLink RX4 28 "SaltRowModel$Pond" "bitter" "I") ∈ wsX4_give := by decide +kernel
set_option maxHeartbeats 4000000 in
set_option maxRecDepth 100000 in
theorem zX4_give (l : Launch) (D : va_G) (a : Nat → Nat) (cs : Nat → ClassId) (N : Nat) (hN : 10 ≤ N) (σ : sS) (i j : Nat) (hi : 2 ≤ i ∧ i < 10) (hj : 2 ≤ j ∧ j < 10) (hij : i ≠ j) (x : Int32) : mMv l yX4_give wsX4_give ({ frames := 1, cells := 0, slots := 0, locals := 22 }) 0 0 D a cs N [.ref (a i), .int x, .ref (a j)] σ (g_X4_give σ i j x) := by
  intro sz
  refine Met.ofW (cc := cX4_give) (maxL := 6) (ret := none) (by decide) rfl ?_
  intro p e s m args below meth c s₁ B hml hv
  obtain ⟨rfl, hsz, hv2⟩ := hv
  have hv3 : mB D a cs N σ sz s := ⟨hsz, hv2⟩
  subst hsz
  have hw := mH_start hv3
  obtain ⟨-, -, hK, -, hN2⟩ := hv3
  have hx := B.exec
  have hb := B.bytes
  have hr := B.returns
  have hts := atoms_spec (ws := wsX4_give) B.pre
  have hown : s.vm.findClass RX4 = some m.cls := findClass_of_methodNamed B.named
  have hlocks := B.notSynchronized
  have hA : ∀ q : Nat, s.heap.size ≤ q → mA a N s.heap.size q := mA_new
  have hl := lv_entry ([.ref (a i), .int x, .ref (a j)]) (n := 6) (Nat.le_of_ble_eq_true rfl)
  rw [lg_entry_eq]
  generalize (lg_sl ([.ref (a i), .int x, .ref (a j)]) ++ List.replicate (6 - (lg_sl ([.ref (a i), .int x, .ref (a j)])).length) Slot.unset).toArray = ls at hl ⊢
  have hl : lv_has ls 6 [(0, .ref (a i)), (1, .int x), (2, .ref (a j))] := hl
  refine lv_aload_n hx hb dX4_give_0 rfl (lv_at hl 0 rfl) ?_
  refine mg_p hx hb hts iX4_give_X4 hown hK hw hi (by omega) 2 (by decide) (hts _ mX4_give_0) dX4_give_1 ?_
  refine lv_iload_n hx hb dX4_give_4 rfl (lv_at hl 1 rfl) ?_
  refine lv_aload_n hx hb dX4_give_5 rfl (lv_at hl 0 rfl) ?_
  refine mg_p hx hb hts iX4_give_X4 hown hK hw hi (by omega) 1 (by decide) (hts _ mX4_give_2) dX4_give_6 ?_
  refine mc_i (mr_N (As := [.int (σ i 2), .int x, .int (σ i 1)]) (rest := []) ⟨hx, hb, hml, hown, hts⟩ (zX6_share l D a cs N (by omega) _ (σ i 2) x (σ i 1) _) (va_cnB 3 hts gX4_give_X6_share_n57 rfl rfl rfl (mN_X4_X6_share hN2) (hts _ mX4_give_3) (by decide +kernel) ⟨Nat.le_of_ble_eq_true rfl, Nat.le_of_ble_eq_true rfl⟩) (hts _ mX4_give_4) hK hN2 hw rfl hl.1 (Nat.le_of_ble_eq_true rfl) dX4_give_9 ⟨Nat.le_of_ble_eq_true rfl, Nat.le_of_ble_eq_true rfl⟩) hw hA (fun H locs hw => ?_)
  refine lw_topi (fun x1 ex1 => ?_)
  refine lv_istore_n (lv' := [(3, .int x1), (0, .ref (a i)), (1, .int x), (2, .ref (a j))]) hx hb dX4_give_12 rfl hl (by decide) rfl (fun ls hl => ?_)
  refine lv_aload_n hx hb dX4_give_13 rfl (lv_at hl 1 rfl) ?_
  refine mg_p hx hb hts iX4_give_X4 hown hK hw hi (by omega) 3 (by decide) (hts _ mX4_give_5) dX4_give_14 ?_
  refine lv_iload_n hx hb dX4_give_17 rfl (lv_at hl 2 rfl) ?_
  refine lv_aload_n hx hb dX4_give_18 rfl (lv_at hl 1 rfl) ?_
  refine mg_p hx hb hts iX4_give_X4 hown hK hw hi (by omega) 1 (by decide) (hts _ mX4_give_2) dX4_give_19 ?_
  refine mc_i (mr_N (As := [.int (σ i 3), .int x, .int (σ i 1)]) (rest := []) ⟨hx, hb, hml, hown, hts⟩ (zX6_share l D a cs N (by omega) _ (σ i 3) x (σ i 1) _) (va_cnB 3 hts gX4_give_X6_share_n57 rfl rfl rfl (mN_X4_X6_share hN2) (hts _ mX4_give_3) (by decide +kernel) ⟨Nat.le_of_ble_eq_true rfl, Nat.le_of_ble_eq_true rfl⟩) (hts _ mX4_give_4) hK hN2 hw rfl hl.1 (Nat.le_of_ble_eq_true rfl) dX4_give_22 ⟨Nat.le_of_ble_eq_true rfl, Nat.le_of_ble_eq_true rfl⟩) hw hA (fun H locs hw => ?_)
  refine lw_topi (fun x2 ex2 => ?_)
  refine lv_istore (lv' := [(4, .int x2), (3, .int x1), (0, .ref (a i)), (1, .int x), (2, .ref (a j))]) hx hb dX4_give_25 hl (by decide) rfl (fun ls hl => ?_)
  refine lv_aload_n hx hb dX4_give_27 rfl (lv_at hl 2 rfl) ?_
  refine mg_p hx hb hts iX4_give_X4 hown hK hw hi (by omega) 4 (by decide) (hts _ mX4_give_6) dX4_give_28 ?_
  refine lv_iload_n hx hb dX4_give_31 rfl (lv_at hl 3 rfl) ?_
  refine lv_aload_n hx hb dX4_give_32 rfl (lv_at hl 2 rfl) ?_
  refine mg_p hx hb hts iX4_give_X4 hown hK hw hi (by omega) 1 (by decide) (hts _ mX4_give_2) dX4_give_33 ?_
  refine mc_i (mr_N (As := [.int (σ i 4), .int x, .int (σ i 1)]) (rest := []) ⟨hx, hb, hml, hown, hts⟩ (zX6_share l D a cs N (by omega) _ (σ i 4) x (σ i 1) _) (va_cnB 3 hts gX4_give_X6_share_n57 rfl rfl rfl (mN_X4_X6_share hN2) (hts _ mX4_give_3) (by decide +kernel) ⟨Nat.le_of_ble_eq_true rfl, Nat.le_of_ble_eq_true rfl⟩) (hts _ mX4_give_4) hK hN2 hw rfl hl.1 (Nat.le_of_ble_eq_true rfl) dX4_give_36 ⟨Nat.le_of_ble_eq_true rfl, Nat.le_of_ble_eq_true rfl⟩) hw hA (fun H locs hw => ?_)
  refine lw_topi (fun x3 ex3 => ?_)
  refine lv_istore (lv' := [(5, .int x3), (4, .int x2), (3, .int x1), (0, .ref (a i)), (1, .int x), (2, .ref (a j))]) hx hb dX4_give_39 hl (by decide) rfl (fun ls hl => ?_)
  refine lv_aload_n hx hb dX4_give_41 rfl (lv_at hl 3 rfl) ?_
  refine lv_dup hx hb dX4_give_42 rfl ?_
  refine mg_p hx hb hts iX4_give_X4 hown hK hw hi (by omega) 1 (by decide) (hts _ mX4_give_2) dX4_give_43 ?_
  refine lv_iload_n hx hb dX4_give_46 rfl (lv_at hl 4 rfl) ?_
  refine lv_isub hx hb dX4_give_47 ?_
  refine mp_p hx hb hts iX4_give_X4 hown hK hw hi (by omega) 1 (by decide) (hts _ mX4_give_2) dX4_give_48 (fun H locs hw => ?_)
  obtain ⟨τ4, eτ4⟩ : ∃ zz : sS, va_up σ i (upd (σ i) 1 ((σ i 1) - x)) = zz := ⟨_, rfl⟩
  rw [eτ4] at hw
  refine lv_aload_n hx hb dX4_give_51 rfl (lv_at hl 3 rfl) ?_
  refine lv_dup hx hb dX4_give_52 rfl ?_
  refine mg_p hx hb hts iX4_give_X4 hown hK hw hi (by omega) 2 (by decide) (hts _ mX4_give_0) dX4_give_53 ?_
  refine lv_iload_n hx hb dX4_give_56 rfl (lv_at hl 2 rfl) ?_
  refine lv_isub hx hb dX4_give_57 ?_
  refine mp_p hx hb hts iX4_give_X4 hown hK hw hi (by omega) 2 (by decide) (hts _ mX4_give_0) dX4_give_58 (fun H locs hw => ?_)
  obtain ⟨τ5, eτ5⟩ : ∃ zz : sS, va_up τ4 i (upd (τ4 i) 2 ((τ4 i 2) - x1)) = zz := ⟨_, rfl⟩
  rw [eτ5] at hw
  refine lv_aload_n hx hb dX4_give_61 rfl (lv_at hl 3 rfl) ?_
  refine lv_dup hx hb dX4_give_62 rfl ?_
  refine mg_p hx hb hts iX4_give_X4 hown hK hw hi (by omega) 3 (by decide) (hts _ mX4_give_5) dX4_give_63 ?_
  refine lv_iload hx hb dX4_give_66 (lv_at hl 1 rfl) ?_
  refine lv_isub hx hb dX4_give_68 ?_
  refine mp_p hx hb hts iX4_give_X4 hown hK hw hi (by omega) 3 (by decide) (hts _ mX4_give_5) dX4_give_69 (fun H locs hw => ?_)
  obtain ⟨τ6, eτ6⟩ : ∃ zz : sS, va_up τ5 i (upd (τ5 i) 3 ((τ5 i 3) - x2)) = zz := ⟨_, rfl⟩
  rw [eτ6] at hw
  refine lv_aload_n hx hb dX4_give_72 rfl (lv_at hl 3 rfl) ?_
  refine lv_dup hx hb dX4_give_73 rfl ?_
  refine mg_p hx hb hts iX4_give_X4 hown hK hw hi (by omega) 4 (by decide) (hts _ mX4_give_6) dX4_give_74 ?_
  refine lv_iload hx hb dX4_give_77 (lv_at hl 0 rfl) ?_
  refine lv_isub hx hb dX4_give_79 ?_
  refine mp_p hx hb hts iX4_give_X4 hown hK hw hi (by omega) 4 (by decide) (hts _ mX4_give_6) dX4_give_80 (fun H locs hw => ?_)
  obtain ⟨τ7, eτ7⟩ : ∃ zz : sS, va_up τ6 i (upd (τ6 i) 4 ((τ6 i 4) - x3)) = zz := ⟨_, rfl⟩
  rw [eτ7] at hw
  refine lv_aload_n hx hb dX4_give_83 rfl (lv_at hl 5 rfl) ?_
  refine lv_dup hx hb dX4_give_84 rfl ?_
  refine mg_p hx hb hts iX4_give_X4 hown hK hw hj (by omega) 1 (by decide) (hts _ mX4_give_2) dX4_give_85 ?_
  refine lv_iload_n hx hb dX4_give_88 rfl (lv_at hl 4 rfl) ?_
  refine lv_iadd hx hb dX4_give_89 ?_
  refine mp_p hx hb hts iX4_give_X4 hown hK hw hj (by omega) 1 (by decide) (hts _ mX4_give_2) dX4_give_90 (fun H locs hw => ?_)
  obtain ⟨τ8, eτ8⟩ : ∃ zz : sS, va_up τ7 j (upd (τ7 j) 1 ((τ7 j 1) + x)) = zz := ⟨_, rfl⟩
  rw [eτ8] at hw
  refine lv_aload_n hx hb dX4_give_93 rfl (lv_at hl 5 rfl) ?_
  refine lv_dup hx hb dX4_give_94 rfl ?_
  refine mg_p hx hb hts iX4_give_X4 hown hK hw hj (by omega) 2 (by decide) (hts _ mX4_give_0) dX4_give_95 ?_
  refine lv_iload_n hx hb dX4_give_98 rfl (lv_at hl 2 rfl) ?_
  refine lv_iadd hx hb dX4_give_99 ?_
  refine mp_p hx hb hts iX4_give_X4 hown hK hw hj (by omega) 2 (by decide) (hts _ mX4_give_0) dX4_give_100 (fun H locs hw => ?_)
  obtain ⟨τ9, eτ9⟩ : ∃ zz : sS, va_up τ8 j (upd (τ8 j) 2 ((τ8 j 2) + x1)) = zz := ⟨_, rfl⟩
  rw [eτ9] at hw
  refine lv_aload_n hx hb dX4_give_103 rfl (lv_at hl 5 rfl) ?_
  refine lv_dup hx hb dX4_give_104 rfl ?_
  refine mg_p hx hb hts iX4_give_X4 hown hK hw hj (by omega) 3 (by decide) (hts _ mX4_give_5) dX4_give_105 ?_
  refine lv_iload hx hb dX4_give_108 (lv_at hl 1 rfl) ?_
  refine lv_iadd hx hb dX4_give_110 ?_
  refine mp_p hx hb hts iX4_give_X4 hown hK hw hj (by omega) 3 (by decide) (hts _ mX4_give_5) dX4_give_111 (fun H locs hw => ?_)
  obtain ⟨τ10, eτ10⟩ : ∃ zz : sS, va_up τ9 j (upd (τ9 j) 3 ((τ9 j 3) + x2)) = zz := ⟨_, rfl⟩
  rw [eτ10] at hw
  refine lv_aload_n hx hb dX4_give_114 rfl (lv_at hl 5 rfl) ?_
  refine lv_dup hx hb dX4_give_115 rfl ?_
  refine mg_p hx hb hts iX4_give_X4 hown hK hw hj (by omega) 4 (by decide) (hts _ mX4_give_6) dX4_give_116 ?_
  refine lv_iload hx hb dX4_give_119 (lv_at hl 0 rfl) ?_
  refine lv_iadd hx hb dX4_give_121 ?_
  refine mp_p hx hb hts iX4_give_X4 hown hK hw hj (by omega) 4 (by decide) (hts _ mX4_give_6) dX4_give_122 (fun H locs hw => ?_)
  obtain ⟨τ11, eτ11⟩ : ∃ zz : sS, va_up τ10 j (upd (τ10 j) 4 ((τ10 j 4) + x3)) = zz := ⟨_, rfl⟩
  rw [eτ11] at hw
  exact me_v hx hb hr hlocks hw (by subst eτ11 eτ10 eτ9 eτ8 eτ7 eτ6 eτ5 eτ4 ex3 ex2 ex1; unfold g_X4_give; simp only [va_up_self, sup_up, va_up_ne _ _ (Ne.symm hij)]; rfl) dX4_give_125
