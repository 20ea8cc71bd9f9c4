theorem mX3_many_0_0 : (Cond.fieldLink RX3 10 "SaltRow" "row" "LSaltRow$Row;") ∈ wsX3_many := by decide +kernel
theorem iX3_many_X3_0 : ∀ w ∈ wsX30, w ∈ wsX3_many := by decide +kernel
theorem mX3_many_2_0 : (Cond.fieldLink RX3 37 "SaltRow$Row" "day" "I") ∈ wsX3_many := by decide +kernel
theorem iX3_many_X2_0 : ∀ w ∈ wsX20, w ∈ wsX3_many := by decide +kernel
set_option maxHeartbeats 4000000 in
set_option maxRecDepth 100000 in
theorem zX3_many_0 (l : Launch) (D : va_G) (a : Nat → Nat) (cs : Nat → ClassId) (σ : sS) (fc : Nat) (hfc : fc ≤ 6) (hc : σ 0 3 = nI fc) : sMi l yX3_many wsX3_many ({ frames := 4, cells := 0, slots := 0, locals := 90 }) D a cs [.ref (a 0), .int (nI 0)] σ (f_X3_many σ fc 0) σ := by
  intro sz
  refine Met.ofW (cc := cX3_many) (maxL := 2) (ret := (some .int)) (by decide) rfl ?_
  intro p e s m args below meth c s₁ B hml hv
  obtain ⟨rfl, hsz, hv2⟩ := hv
  have hv3 : sB D a cs σ sz s := ⟨hsz, hv2⟩
  subst hsz
  have hw := sH_start hv3
  obtain ⟨-, -, hK, -, hN⟩ := hv3
  have hx := B.exec
  have hb := B.bytes
  have hr := B.returns
  have hts := atoms_spec (ws := wsX3_many) B.pre
  have hown : s.vm.findClass RX3 = some m.cls := findClass_of_methodNamed B.named
  have hlocks := B.notSynchronized
  have hA : ∀ q : Nat, s.heap.size ≤ q → sA a s.heap.size q := sA_new
  have hl := lv_entry ([.ref (a 0), .int (nI 0)]) (n := 2) (Nat.le_of_ble_eq_true rfl)
  rw [lg_entry_eq]
  generalize (lg_sl ([.ref (a 0), .int (nI 0)]) ++ List.replicate (2 - (lg_sl ([.ref (a 0), .int (nI 0)])).length) Slot.unset).toArray = ls at hl ⊢
  have hl : lv_has ls 2 [(0, .ref (a 0)), (1, .int (nI 0))] := hl
  refine lv_iload_n hx hb dX3_many_0 rfl (lv_at hl 1 rfl) ?_
  refine lv_tableIn (tgt := 88) hx hb dX3_many_1 (by decide) (by decide) (off := 87) (by decide +kernel) (by decide) ?_
  refine lv_aload_n hx hb dX3_many_88 rfl (lv_at hl 0 rfl) ?_
  refine sg_oq hx hb hts iX3_many_X3_0 hown hK hw 0 (Or.inl ⟨rfl, rfl⟩) (hts _ mX3_many_0_0) dX3_many_89 ?_
  refine sg_r (r := 0) hx hb hts iX3_many_X2_0 hown hK hw (by omega) 1 (by decide) (hts _ mX3_many_2_0) dX3_many_92 ?_
  exact se_i hx hb hr hlocks hw (by exact rfl) (by rfl) dX3_many_95
theorem mX3_many_0_1 : (Cond.fieldLink RX3 129 "SaltRow" "familyCount" "I") ∈ wsX3_many := by decide +kernel
theorem iX3_many_X3_1 : ∀ w ∈ wsX30, w ∈ wsX3_many := by decide +kernel
set_option maxHeartbeats 4000000 in
set_option maxRecDepth 100000 in
theorem zX3_many_1 (l : Launch) (D : va_G) (a : Nat → Nat) (cs : Nat → ClassId) (σ : sS) (fc : Nat) (hfc : fc ≤ 6) (hc : σ 0 3 = nI fc) : sMi l yX3_many wsX3_many ({ frames := 4, cells := 0, slots := 0, locals := 90 }) D a cs [.ref (a 0), .int (nI 1)] σ (f_X3_many σ fc 1) σ := by
  intro sz
  refine Met.ofW (cc := cX3_many) (maxL := 2) (ret := (some .int)) (by decide) rfl ?_
  intro p e s m args below meth c s₁ B hml hv
  obtain ⟨rfl, hsz, hv2⟩ := hv
  have hv3 : sB D a cs σ sz s := ⟨hsz, hv2⟩
  subst hsz
  have hw := sH_start hv3
  obtain ⟨-, -, hK, -, hN⟩ := hv3
  have hx := B.exec
  have hb := B.bytes
  have hr := B.returns
  have hts := atoms_spec (ws := wsX3_many) B.pre
  have hown : s.vm.findClass RX3 = some m.cls := findClass_of_methodNamed B.named
  have hlocks := B.notSynchronized
  have hA : ∀ q : Nat, s.heap.size ≤ q → sA a s.heap.size q := sA_new
  have hl := lv_entry ([.ref (a 0), .int (nI 1)]) (n := 2) (Nat.le_of_ble_eq_true rfl)
  rw [lg_entry_eq]
  generalize (lg_sl ([.ref (a 0), .int (nI 1)]) ++ List.replicate (2 - (lg_sl ([.ref (a 0), .int (nI 1)])).length) Slot.unset).toArray = ls at hl ⊢
  have hl : lv_has ls 2 [(0, .ref (a 0)), (1, .int (nI 1))] := hl
  refine lv_iload_n hx hb dX3_many_0 rfl (lv_at hl 1 rfl) ?_
  refine lv_tableIn (tgt := 96) hx hb dX3_many_1 (by decide) (by decide) (off := 95) (by decide +kernel) (by decide) ?_
  refine lv_aload_n hx hb dX3_many_96 rfl (lv_at hl 0 rfl) ?_
  refine sg_o hx hb hts iX3_many_X3_1 hown hK hw 3 (by decide) (hts _ mX3_many_0_1) dX3_many_97 ?_
  exact se_i hx hb hr hlocks hw (by exact rfl) (by rfl) dX3_many_100
theorem mX3_many_0_2 : (Cond.fieldLink RX3 10 "SaltRow" "row" "LSaltRow$Row;") ∈ wsX3_many := by decide +kernel
theorem iX3_many_X3_2 : ∀ w ∈ wsX30, w ∈ wsX3_many := by decide +kernel
set_option maxHeartbeats 4000000 in
set_option maxRecDepth 100000 in
theorem zX3_many_2 (l : Launch) (D : va_G) (a : Nat → Nat) (cs : Nat → ClassId) (σ : sS) (fc : Nat) (hfc : fc ≤ 6) (hc : σ 0 3 = nI fc) : sMi l yX3_many wsX3_many ({ frames := 4, cells := 0, slots := 0, locals := 90 }) D a cs [.ref (a 0), .int (nI 2)] σ (f_X3_many σ fc 2) σ := by
  intro sz
  refine Met.ofW (cc := cX3_many) (maxL := 2) (ret := (some .int)) (by decide) rfl ?_
  intro p e s m args below meth c s₁ B hml hv
  obtain ⟨rfl, hsz, hv2⟩ := hv
  have hv3 : sB D a cs σ sz s := ⟨hsz, hv2⟩
  subst hsz
  have hw := sH_start hv3
  obtain ⟨-, -, hK, -, hN⟩ := hv3
  have hx := B.exec
  have hb := B.bytes
  have hr := B.returns
  have hts := atoms_spec (ws := wsX3_many) B.pre
  have hown : s.vm.findClass RX3 = some m.cls := findClass_of_methodNamed B.named
  have hlocks := B.notSynchronized
  have hA : ∀ q : Nat, s.heap.size ≤ q → sA a s.heap.size q := sA_new
  have hl := lv_entry ([.ref (a 0), .int (nI 2)]) (n := 2) (Nat.le_of_ble_eq_true rfl)
  rw [lg_entry_eq]
  generalize (lg_sl ([.ref (a 0), .int (nI 2)]) ++ List.replicate (2 - (lg_sl ([.ref (a 0), .int (nI 2)])).length) Slot.unset).toArray = ls at hl ⊢
  have hl : lv_has ls 2 [(0, .ref (a 0)), (1, .int (nI 2))] := hl
  refine lv_iload_n hx hb dX3_many_0 rfl (lv_at hl 1 rfl) ?_
  refine lv_tableIn (tgt := 101) hx hb dX3_many_1 (by decide) (by decide) (off := 100) (by decide +kernel) (by decide) ?_
  refine lv_aload_n hx hb dX3_many_101 rfl (lv_at hl 0 rfl) ?_
  refine sg_oq hx hb hts iX3_many_X3_2 hown hK hw 0 (Or.inl ⟨rfl, rfl⟩) (hts _ mX3_many_0_2) dX3_many_102 ?_
  refine sc_i (sr_V (i := 1 + 0) (As := []) (rest := []) ⟨hx, hb, hml, hown, hts⟩ (zX2_openGates l D a cs _ 0 (by omega) _) (cwV 0 hts gX3_many_X2_openGates rfl rfl rfl (by decide +kernel) ⟨Nat.le_of_ble_eq_true rfl, Nat.le_of_ble_eq_true rfl⟩) hK hN hw (by omega) (sE_r (by omega)) kcX2 rfl hl.1 (Nat.le_of_ble_eq_true rfl) dX3_many_105 ⟨Nat.le_of_ble_eq_true rfl, Nat.le_of_ble_eq_true rfl⟩) hw hA (fun H locs hw => ?_)
  exact se_i hx hb hr hlocks hw (by exact rfl) (by rfl) dX3_many_108
theorem mX3_many_0_3 : (Cond.fieldLink RX3 10 "SaltRow" "row" "LSaltRow$Row;") ∈ wsX3_many := by decide +kernel
theorem iX3_many_X3_3 : ∀ w ∈ wsX30, w ∈ wsX3_many := by decide +kernel
set_option maxHeartbeats 4000000 in
set_option maxRecDepth 100000 in
theorem zX3_many_3 (l : Launch) (D : va_G) (a : Nat → Nat) (cs : Nat → ClassId) (σ : sS) (fc : Nat) (hfc : fc ≤ 6) (hc : σ 0 3 = nI fc) : sMi l yX3_many wsX3_many ({ frames := 4, cells := 0, slots := 0, locals := 90 }) D a cs [.ref (a 0), .int (nI 3)] σ (f_X3_many σ fc 3) σ := by
  intro sz
  refine Met.ofW (cc := cX3_many) (maxL := 2) (ret := (some .int)) (by decide) rfl ?_
  intro p e s m args below meth c s₁ B hml hv
  obtain ⟨rfl, hsz, hv2⟩ := hv
  have hv3 : sB D a cs σ sz s := ⟨hsz, hv2⟩
  subst hsz
  have hw := sH_start hv3
  obtain ⟨-, -, hK, -, hN⟩ := hv3
  have hx := B.exec
  have hb := B.bytes
  have hr := B.returns
  have hts := atoms_spec (ws := wsX3_many) B.pre
  have hown : s.vm.findClass RX3 = some m.cls := findClass_of_methodNamed B.named
  have hlocks := B.notSynchronized
  have hA : ∀ q : Nat, s.heap.size ≤ q → sA a s.heap.size q := sA_new
  have hl := lv_entry ([.ref (a 0), .int (nI 3)]) (n := 2) (Nat.le_of_ble_eq_true rfl)
  rw [lg_entry_eq]
  generalize (lg_sl ([.ref (a 0), .int (nI 3)]) ++ List.replicate (2 - (lg_sl ([.ref (a 0), .int (nI 3)])).length) Slot.unset).toArray = ls at hl ⊢
  have hl : lv_has ls 2 [(0, .ref (a 0)), (1, .int (nI 3))] := hl
  refine lv_iload_n hx hb dX3_many_0 rfl (lv_at hl 1 rfl) ?_
  refine lv_tableIn (tgt := 109) hx hb dX3_many_1 (by decide) (by decide) (off := 108) (by decide +kernel) (by decide) ?_
  refine lv_aload_n hx hb dX3_many_109 rfl (lv_at hl 0 rfl) ?_
  refine sg_oq hx hb hts iX3_many_X3_3 hown hK hw 0 (Or.inl ⟨rfl, rfl⟩) (hts _ mX3_many_0_3) dX3_many_110 ?_
  refine sc_i (sr_V (i := 1 + 0) (As := []) (rest := []) ⟨hx, hb, hml, hown, hts⟩ (zX2_coveredPans l D a cs _ 0 (by omega) _) (cwV 0 hts gX3_many_X2_coveredPans rfl rfl rfl (by decide +kernel) ⟨Nat.le_of_ble_eq_true rfl, Nat.le_of_ble_eq_true rfl⟩) hK hN hw (by omega) (sE_r (by omega)) kcX2 rfl hl.1 (Nat.le_of_ble_eq_true rfl) dX3_many_113 ⟨Nat.le_of_ble_eq_true rfl, Nat.le_of_ble_eq_true rfl⟩) hw hA (fun H locs hw => ?_)
  exact se_i hx hb hr hlocks hw (by exact rfl) (by rfl) dX3_many_116
theorem mX3_many_0_4 : (Cond.fieldLink RX3 10 "SaltRow" "row" "LSaltRow$Row;") ∈ wsX3_many := by decide +kernel
theorem iX3_many_X3_4 : ∀ w ∈ wsX30, w ∈ wsX3_many := by decide +kernel
theorem mX3_many_2_4 : (Cond.fieldLink RX3 237 "SaltRow$Row" "seaSalt" "I") ∈ wsX3_many := by decide +kernel
theorem iX3_many_X2_4 : ∀ w ∈ wsX20, w ∈ wsX3_many := by decide +kernel
set_option maxHeartbeats 4000000 in
set_option maxRecDepth 100000 in
theorem zX3_many_4 (l : Launch) (D : va_G) (a : Nat → Nat) (cs : Nat → ClassId) (σ : sS) (fc : Nat) (hfc : fc ≤ 6) (hc : σ 0 3 = nI fc) : sMi l yX3_many wsX3_many ({ frames := 4, cells := 0, slots := 0, locals := 90 }) D a cs [.ref (a 0), .int (nI 4)] σ (f_X3_many σ fc 4) σ := by
  intro sz
  refine Met.ofW (cc := cX3_many) (maxL := 2) (ret := (some .int)) (by decide) rfl ?_
  intro p e s m args below meth c s₁ B hml hv
  obtain ⟨rfl, hsz, hv2⟩ := hv
  have hv3 : sB D a cs σ sz s := ⟨hsz, hv2⟩
  subst hsz
  have hw := sH_start hv3
  obtain ⟨-, -, hK, -, hN⟩ := hv3
  have hx := B.exec
  have hb := B.bytes
  have hr := B.returns
  have hts := atoms_spec (ws := wsX3_many) B.pre
  have hown : s.vm.findClass RX3 = some m.cls := findClass_of_methodNamed B.named
  have hlocks := B.notSynchronized
  have hA : ∀ q : Nat, s.heap.size ≤ q → sA a s.heap.size q := sA_new
  have hl := lv_entry ([.ref (a 0), .int (nI 4)]) (n := 2) (Nat.le_of_ble_eq_true rfl)
  rw [lg_entry_eq]
  generalize (lg_sl ([.ref (a 0), .int (nI 4)]) ++ List.replicate (2 - (lg_sl ([.ref (a 0), .int (nI 4)])).length) Slot.unset).toArray = ls at hl ⊢
  have hl : lv_has ls 2 [(0, .ref (a 0)), (1, .int (nI 4))] := hl
  refine lv_iload_n hx hb dX3_many_0 rfl (lv_at hl 1 rfl) ?_
  refine lv_tableIn (tgt := 117) hx hb dX3_many_1 (by decide) (by decide) (off := 116) (by decide +kernel) (by decide) ?_
  refine lv_aload_n hx hb dX3_many_117 rfl (lv_at hl 0 rfl) ?_
  refine sg_oq hx hb hts iX3_many_X3_4 hown hK hw 0 (Or.inl ⟨rfl, rfl⟩) (hts _ mX3_many_0_4) dX3_many_118 ?_
  refine sg_r (r := 0) hx hb hts iX3_many_X2_4 hown hK hw (by omega) 4 (by decide) (hts _ mX3_many_2_4) dX3_many_121 ?_
  exact se_i hx hb hr hlocks hw (by exact rfl) (by rfl) dX3_many_124
theorem mX3_many_0_5 : (Cond.fieldLink RX3 10 "SaltRow" "row" "LSaltRow$Row;") ∈ wsX3_many := by decide +kernel
theorem iX3_many_X3_5 : ∀ w ∈ wsX30, w ∈ wsX3_many := by decide +kernel
set_option maxHeartbeats 4000000 in
set_option maxRecDepth 100000 in
theorem zX3_many_5 (l : Launch) (D : va_G) (a : Nat → Nat) (cs : Nat → ClassId) (σ : sS) (fc : Nat) (hfc : fc ≤ 6) (hc : σ 0 3 = nI fc) : sMi l yX3_many wsX3_many ({ frames := 4, cells := 0, slots := 0, locals := 90 }) D a cs [.ref (a 0), .int (nI 5)] σ (f_X3_many σ fc 5) σ := by
  intro sz
  refine Met.ofW (cc := cX3_many) (maxL := 2) (ret := (some .int)) (by decide) rfl ?_
  intro p e s m args below meth c s₁ B hml hv
  obtain ⟨rfl, hsz, hv2⟩ := hv
  have hv3 : sB D a cs σ sz s := ⟨hsz, hv2⟩
  subst hsz
  have hw := sH_start hv3
  obtain ⟨-, -, hK, -, hN⟩ := hv3
  have hx := B.exec
  have hb := B.bytes
  have hr := B.returns
  have hts := atoms_spec (ws := wsX3_many) B.pre
  have hown : s.vm.findClass RX3 = some m.cls := findClass_of_methodNamed B.named
  have hlocks := B.notSynchronized
  have hA : ∀ q : Nat, s.heap.size ≤ q → sA a s.heap.size q := sA_new
  have hl := lv_entry ([.ref (a 0), .int (nI 5)]) (n := 2) (Nat.le_of_ble_eq_true rfl)
  rw [lg_entry_eq]
  generalize (lg_sl ([.ref (a 0), .int (nI 5)]) ++ List.replicate (2 - (lg_sl ([.ref (a 0), .int (nI 5)])).length) Slot.unset).toArray = ls at hl ⊢
  have hl : lv_has ls 2 [(0, .ref (a 0)), (1, .int (nI 5))] := hl
  refine lv_iload_n hx hb dX3_many_0 rfl (lv_at hl 1 rfl) ?_
  refine lv_tableIn (tgt := 125) hx hb dX3_many_1 (by decide) (by decide) (off := 124) (by decide +kernel) (by decide) ?_
  refine lv_aload_n hx hb dX3_many_125 rfl (lv_at hl 0 rfl) ?_
  refine sg_oq hx hb hts iX3_many_X3_5 hown hK hw 0 (Or.inl ⟨rfl, rfl⟩) (hts _ mX3_many_0_5) dX3_many_126 ?_
  refine lv_iconst (v := 2) hx hb dX3_many_129 (by decide) ?_
  refine sc_i (sr_V (i := 1 + 0) (As := [.int 2]) (rest := []) ⟨hx, hb, hml, hown, hts⟩ (zX2_sumOfPonds l D a cs _ 0 (by omega) 2 (by decide) _) (cwV 1 hts gX3_many_X2_sumOfPonds rfl rfl rfl (by decide +kernel) ⟨Nat.le_of_ble_eq_true rfl, Nat.le_of_ble_eq_true rfl⟩) hK hN hw (by omega) (sE_r (by omega)) kcX2 rfl hl.1 (Nat.le_of_ble_eq_true rfl) dX3_many_130 ⟨Nat.le_of_ble_eq_true rfl, Nat.le_of_ble_eq_true rfl⟩) hw hA (fun H locs hw => ?_)
  exact se_i hx hb hr hlocks hw (by exact rfl) (by rfl) dX3_many_133
theorem mX3_many_0_6 : (Cond.fieldLink RX3 10 "SaltRow" "row" "LSaltRow$Row;") ∈ wsX3_many := by decide +kernel
theorem iX3_many_X3_6 : ∀ w ∈ wsX30, w ∈ wsX3_many := by decide +kernel
set_option maxHeartbeats 4000000 in
set_option maxRecDepth 100000 in
theorem zX3_many_6 (l : Launch) (D : va_G) (a : Nat → Nat) (cs : Nat → ClassId) (σ : sS) (fc : Nat) (hfc : fc ≤ 6) (hc : σ 0 3 = nI fc) : sMi l yX3_many wsX3_many ({ frames := 4, cells := 0, slots := 0, locals := 90 }) D a cs [.ref (a 0), .int (nI 6)] σ (f_X3_many σ fc 6) σ := by
  intro sz
  refine Met.ofW (cc := cX3_many) (maxL := 2) (ret := (some .int)) (by decide) rfl ?_
  intro p e s m args below meth c s₁ B hml hv
  obtain ⟨rfl, hsz, hv2⟩ := hv
  have hv3 : sB D a cs σ sz s := ⟨hsz, hv2⟩
  subst hsz
  have hw := sH_start hv3
  obtain ⟨-, -, hK, -, hN⟩ := hv3
  have hx := B.exec
  have hb := B.bytes
  have hr := B.returns
  have hts := atoms_spec (ws := wsX3_many) B.pre
  have hown : s.vm.findClass RX3 = some m.cls := findClass_of_methodNamed B.named
  have hlocks := B.notSynchronized
  have hA : ∀ q : Nat, s.heap.size ≤ q → sA a s.heap.size q := sA_new
  have hl := lv_entry ([.ref (a 0), .int (nI 6)]) (n := 2) (Nat.le_of_ble_eq_true rfl)
  rw [lg_entry_eq]
  generalize (lg_sl ([.ref (a 0), .int (nI 6)]) ++ List.replicate (2 - (lg_sl ([.ref (a 0), .int (nI 6)])).length) Slot.unset).toArray = ls at hl ⊢
  have hl : lv_has ls 2 [(0, .ref (a 0)), (1, .int (nI 6))] := hl
  refine lv_iload_n hx hb dX3_many_0 rfl (lv_at hl 1 rfl) ?_
  refine lv_tableIn (tgt := 134) hx hb dX3_many_1 (by decide) (by decide) (off := 133) (by decide +kernel) (by decide) ?_
  refine lv_aload_n hx hb dX3_many_134 rfl (lv_at hl 0 rfl) ?_
  refine sg_oq hx hb hts iX3_many_X3_6 hown hK hw 0 (Or.inl ⟨rfl, rfl⟩) (hts _ mX3_many_0_6) dX3_many_135 ?_
  refine lv_bipush (v := 6) hx hb dX3_many_138 (by decide) ?_
  refine sc_i (sr_V (i := 1 + 0) (As := [.int 6]) (rest := []) ⟨hx, hb, hml, hown, hts⟩ (zX2_sumOfPonds l D a cs _ 0 (by omega) 6 (by decide) _) (cwV 1 hts gX3_many_X2_sumOfPonds rfl rfl rfl (by decide +kernel) ⟨Nat.le_of_ble_eq_true rfl, Nat.le_of_ble_eq_true rfl⟩) hK hN hw (by omega) (sE_r (by omega)) kcX2 rfl hl.1 (Nat.le_of_ble_eq_true rfl) dX3_many_140 ⟨Nat.le_of_ble_eq_true rfl, Nat.le_of_ble_eq_true rfl⟩) hw hA (fun H locs hw => ?_)
  exact se_i hx hb hr hlocks hw (by exact rfl) (by rfl) dX3_many_143
set_option maxHeartbeats 4000000 in
set_option maxRecDepth 100000 in
theorem zX3_many_7 (l : Launch) (D : va_G) (a : Nat → Nat) (cs : Nat → ClassId) (σ : sS) (fc : Nat) (hfc : fc ≤ 6) (hc : σ 0 3 = nI fc) : sMi l yX3_many wsX3_many ({ frames := 4, cells := 0, slots := 0, locals := 90 }) D a cs [.ref (a 0), .int (nI 7)] σ (f_X3_many σ fc 7) σ := by
  intro sz
  refine Met.ofW (cc := cX3_many) (maxL := 2) (ret := (some .int)) (by decide) rfl ?_
  intro p e s m args below meth c s₁ B hml hv
  obtain ⟨rfl, hsz, hv2⟩ := hv
  have hv3 : sB D a cs σ sz s := ⟨hsz, hv2⟩
  subst hsz
  have hw := sH_start hv3
  obtain ⟨-, -, hK, -, hN⟩ := hv3
  have hx := B.exec
  have hb := B.bytes
  have hr := B.returns
  have hts := atoms_spec (ws := wsX3_many) B.pre
  have hown : s.vm.findClass RX3 = some m.cls := findClass_of_methodNamed B.named
  have hlocks := B.notSynchronized
  have hA : ∀ q : Nat, s.heap.size ≤ q → sA a s.heap.size q := sA_new
  have hl := lv_entry ([.ref (a 0), .int (nI 7)]) (n := 2) (Nat.le_of_ble_eq_true rfl)
  rw [lg_entry_eq]
  generalize (lg_sl ([.ref (a 0), .int (nI 7)]) ++ List.replicate (2 - (lg_sl ([.ref (a 0), .int (nI 7)])).length) Slot.unset).toArray = ls at hl ⊢
  have hl : lv_has ls 2 [(0, .ref (a 0)), (1, .int (nI 7))] := hl
  refine lv_iload_n hx hb dX3_many_0 rfl (lv_at hl 1 rfl) ?_
  refine lv_tableIn (tgt := 144) hx hb dX3_many_1 (by decide) (by decide) (off := 143) (by decide +kernel) (by decide) ?_
  refine lv_aload_n hx hb dX3_many_144 rfl (lv_at hl 0 rfl) ?_
  refine lv_iconst (v := 0) hx hb dX3_many_145 (by decide) ?_
  refine sc_i (sr_V (i := 0) (As := [.int 0]) (rest := []) ⟨hx, hb, hml, hown, hts⟩ (zX3_sumOfFamilies l D a cs _ fc hfc hc 0 (by decide) _) (cwV 1 hts gX3_many_X3_sumOfFamilies rfl rfl rfl (by decide +kernel) ⟨Nat.le_of_ble_eq_true rfl, Nat.le_of_ble_eq_true rfl⟩) hK hN hw (by omega) sE_o kcX3 rfl hl.1 (Nat.le_of_ble_eq_true rfl) dX3_many_146 ⟨Nat.le_of_ble_eq_true rfl, Nat.le_of_ble_eq_true rfl⟩) hw hA (fun H locs hw => ?_)
  exact se_i hx hb hr hlocks hw (by exact rfl) (by rfl) dX3_many_149
set_option maxHeartbeats 4000000 in
set_option maxRecDepth 100000 in
theorem zX3_many_8 (l : Launch) (D : va_G) (a : Nat → Nat) (cs : Nat → ClassId) (σ : sS) (fc : Nat) (hfc : fc ≤ 6) (hc : σ 0 3 = nI fc) : sMi l yX3_many wsX3_many ({ frames := 4, cells := 0, slots := 0, locals := 90 }) D a cs [.ref (a 0), .int (nI 8)] σ (f_X3_many σ fc 8) σ := by
  intro sz
  refine Met.ofW (cc := cX3_many) (maxL := 2) (ret := (some .int)) (by decide) rfl ?_
  intro p e s m args below meth c s₁ B hml hv
  obtain ⟨rfl, hsz, hv2⟩ := hv
  have hv3 : sB D a cs σ sz s := ⟨hsz, hv2⟩
  subst hsz
  have hw := sH_start hv3
  obtain ⟨-, -, hK, -, hN⟩ := hv3
  have hx := B.exec
  have hb := B.bytes
  have hr := B.returns
  have hts := atoms_spec (ws := wsX3_many) B.pre
  have hown : s.vm.findClass RX3 = some m.cls := findClass_of_methodNamed B.named
  have hlocks := B.notSynchronized
  have hA : ∀ q : Nat, s.heap.size ≤ q → sA a s.heap.size q := sA_new
  have hl := lv_entry ([.ref (a 0), .int (nI 8)]) (n := 2) (Nat.le_of_ble_eq_true rfl)
  rw [lg_entry_eq]
  generalize (lg_sl ([.ref (a 0), .int (nI 8)]) ++ List.replicate (2 - (lg_sl ([.ref (a 0), .int (nI 8)])).length) Slot.unset).toArray = ls at hl ⊢
  have hl : lv_has ls 2 [(0, .ref (a 0)), (1, .int (nI 8))] := hl
  refine lv_iload_n hx hb dX3_many_0 rfl (lv_at hl 1 rfl) ?_
  refine lv_tableIn (tgt := 150) hx hb dX3_many_1 (by decide) (by decide) (off := 149) (by decide +kernel) (by decide) ?_
  refine lv_aload_n hx hb dX3_many_150 rfl (lv_at hl 0 rfl) ?_
  refine lv_iconst (v := 5) hx hb dX3_many_151 (by decide) ?_
  refine sc_i (sr_V (i := 0) (As := [.int 5]) (rest := []) ⟨hx, hb, hml, hown, hts⟩ (zX3_sumOfFamilies l D a cs _ fc hfc hc 5 (by decide) _) (cwV 1 hts gX3_many_X3_sumOfFamilies rfl rfl rfl (by decide +kernel) ⟨Nat.le_of_ble_eq_true rfl, Nat.le_of_ble_eq_true rfl⟩) hK hN hw (by omega) sE_o kcX3 rfl hl.1 (Nat.le_of_ble_eq_true rfl) dX3_many_152 ⟨Nat.le_of_ble_eq_true rfl, Nat.le_of_ble_eq_true rfl⟩) hw hA (fun H locs hw => ?_)
  exact se_i hx hb hr hlocks hw (by exact rfl) (by rfl) dX3_many_155
theorem mX3_many_0_9 : (Cond.fieldLink RX3 100 "SaltRow" "lostSalt" "I") ∈ wsX3_many := by decide +kernel
theorem iX3_many_X3_9 : ∀ w ∈ wsX30, w ∈ wsX3_many := by decide +kernel
set_option maxHeartbeats 4000000 in
set_option maxRecDepth 100000 in
theorem zX3_many_9 (l : Launch) (D : va_G) (a : Nat → Nat) (cs : Nat → ClassId) (σ : sS) (fc : Nat) (hfc : fc ≤ 6) (hc : σ 0 3 = nI fc) : sMi l yX3_many wsX3_many ({ frames := 4, cells := 0, slots := 0, locals := 90 }) D a cs [.ref (a 0), .int (nI 9)] σ (f_X3_many σ fc 9) σ := by
  intro sz
  refine Met.ofW (cc := cX3_many) (maxL := 2) (ret := (some .int)) (by decide) rfl ?_
  intro p e s m args below meth c s₁ B hml hv
  obtain ⟨rfl, hsz, hv2⟩ := hv
  have hv3 : sB D a cs σ sz s := ⟨hsz, hv2⟩
  subst hsz
  have hw := sH_start hv3
  obtain ⟨-, -, hK, -, hN⟩ := hv3
  have hx := B.exec
  have hb := B.bytes
  have hr := B.returns
  have hts := atoms_spec (ws := wsX3_many) B.pre
  have hown : s.vm.findClass RX3 = some m.cls := findClass_of_methodNamed B.named
  have hlocks := B.notSynchronized
  have hA : ∀ q : Nat, s.heap.size ≤ q → sA a s.heap.size q := sA_new
  have hl := lv_entry ([.ref (a 0), .int (nI 9)]) (n := 2) (Nat.le_of_ble_eq_true rfl)
  rw [lg_entry_eq]
  generalize (lg_sl ([.ref (a 0), .int (nI 9)]) ++ List.replicate (2 - (lg_sl ([.ref (a 0), .int (nI 9)])).length) Slot.unset).toArray = ls at hl ⊢
  have hl : lv_has ls 2 [(0, .ref (a 0)), (1, .int (nI 9))] := hl
  refine lv_iload_n hx hb dX3_many_0 rfl (lv_at hl 1 rfl) ?_
  refine lv_tableIn (tgt := 156) hx hb dX3_many_1 (by decide) (by decide) (off := 155) (by decide +kernel) (by decide) ?_
  refine lv_aload_n hx hb dX3_many_156 rfl (lv_at hl 0 rfl) ?_
  refine sg_o hx hb hts iX3_many_X3_9 hown hK hw 5 (by decide) (hts _ mX3_many_0_9) dX3_many_157 ?_
  exact se_i hx hb hr hlocks hw (by exact rfl) (by rfl) dX3_many_160
theorem mX3_many_0_10 : (Cond.fieldLink RX3 173 "SaltRow" "crownSalt" "I") ∈ wsX3_many := by decide +kernel
theorem iX3_many_X3_10 : ∀ w ∈ wsX30, w ∈ wsX3_many := by decide +kernel
set_option maxHeartbeats 4000000 in
set_option maxRecDepth 100000 in
theorem zX3_many_10 (l : Launch) (D : va_G) (a : Nat → Nat) (cs : Nat → ClassId) (σ : sS) (fc : Nat) (hfc : fc ≤ 6) (hc : σ 0 3 = nI fc) : sMi l yX3_many wsX3_many ({ frames := 4, cells := 0, slots := 0, locals := 90 }) D a cs [.ref (a 0), .int (nI 10)] σ (f_X3_many σ fc 10) σ := by
  intro sz
  refine Met.ofW (cc := cX3_many) (maxL := 2) (ret := (some .int)) (by decide) rfl ?_
  intro p e s m args below meth c s₁ B hml hv
  obtain ⟨rfl, hsz, hv2⟩ := hv
  have hv3 : sB D a cs σ sz s := ⟨hsz, hv2⟩
  subst hsz
  have hw := sH_start hv3
  obtain ⟨-, -, hK, -, hN⟩ := hv3
  have hx := B.exec
  have hb := B.bytes
  have hr := B.returns
  have hts := atoms_spec (ws := wsX3_many) B.pre
  have hown : s.vm.findClass RX3 = some m.cls := findClass_of_methodNamed B.named
  have hlocks := B.notSynchronized
  have hA : ∀ q : Nat, s.heap.size ≤ q → sA a s.heap.size q := sA_new
  have hl := lv_entry ([.ref (a 0), .int (nI 10)]) (n := 2) (Nat.le_of_ble_eq_true rfl)
  rw [lg_entry_eq]
  generalize (lg_sl ([.ref (a 0), .int (nI 10)]) ++ List.replicate (2 - (lg_sl ([.ref (a 0), .int (nI 10)])).length) Slot.unset).toArray = ls at hl ⊢
  have hl : lv_has ls 2 [(0, .ref (a 0)), (1, .int (nI 10))] := hl
  refine lv_iload_n hx hb dX3_many_0 rfl (lv_at hl 1 rfl) ?_
  refine lv_tableIn (tgt := 161) hx hb dX3_many_1 (by decide) (by decide) (off := 160) (by decide +kernel) (by decide) ?_
  refine lv_aload_n hx hb dX3_many_161 rfl (lv_at hl 0 rfl) ?_
  refine sg_o hx hb hts iX3_many_X3_10 hown hK hw 6 (by decide) (hts _ mX3_many_0_10) dX3_many_162 ?_
  exact se_i hx hb hr hlocks hw (by exact rfl) (by rfl) dX3_many_165
theorem mX3_many_0_11 : (Cond.fieldLink RX3 246 "SaltRow" "cloisterSalt" "I") ∈ wsX3_many := by decide +kernel
theorem iX3_many_X3_11 : ∀ w ∈ wsX30, w ∈ wsX3_many := by decide +kernel
set_option maxHeartbeats 4000000 in
set_option maxRecDepth 100000 in
theorem zX3_many_11 (l : Launch) (D : va_G) (a : Nat → Nat) (cs : Nat → ClassId) (σ : sS) (fc : Nat) (hfc : fc ≤ 6) (hc : σ 0 3 = nI fc) : sMi l yX3_many wsX3_many ({ frames := 4, cells := 0, slots := 0, locals := 90 }) D a cs [.ref (a 0), .int (nI 11)] σ (f_X3_many σ fc 11) σ := by
  intro sz
  refine Met.ofW (cc := cX3_many) (maxL := 2) (ret := (some .int)) (by decide) rfl ?_
  intro p e s m args below meth c s₁ B hml hv
  obtain ⟨rfl, hsz, hv2⟩ := hv
  have hv3 : sB D a cs σ sz s := ⟨hsz, hv2⟩
  subst hsz
  have hw := sH_start hv3
  obtain ⟨-, -, hK, -, hN⟩ := hv3
  have hx := B.exec
  have hb := B.bytes
  have hr := B.returns
  have hts := atoms_spec (ws := wsX3_many) B.pre
  have hown : s.vm.findClass RX3 = some m.cls := findClass_of_methodNamed B.named
  have hlocks := B.notSynchronized
  have hA : ∀ q : Nat, s.heap.size ≤ q → sA a s.heap.size q := sA_new
  have hl := lv_entry ([.ref (a 0), .int (nI 11)]) (n := 2) (Nat.le_of_ble_eq_true rfl)
  rw [lg_entry_eq]
  generalize (lg_sl ([.ref (a 0), .int (nI 11)]) ++ List.replicate (2 - (lg_sl ([.ref (a 0), .int (nI 11)])).length) Slot.unset).toArray = ls at hl ⊢
  have hl : lv_has ls 2 [(0, .ref (a 0)), (1, .int (nI 11))] := hl
  refine lv_iload_n hx hb dX3_many_0 rfl (lv_at hl 1 rfl) ?_
  refine lv_tableIn (tgt := 166) hx hb dX3_many_1 (by decide) (by decide) (off := 165) (by decide +kernel) (by decide) ?_
  refine lv_aload_n hx hb dX3_many_166 rfl (lv_at hl 0 rfl) ?_
  refine sg_o hx hb hts iX3_many_X3_11 hown hK hw 7 (by decide) (hts _ mX3_many_0_11) dX3_many_167 ?_
  exact se_i hx hb hr hlocks hw (by exact rfl) (by rfl) dX3_many_170
theorem mX3_many_0_12 : (Cond.fieldLink RX3 10 "SaltRow" "row" "LSaltRow$Row;") ∈ wsX3_many := by decide +kernel
theorem iX3_many_X3_12 : ∀ w ∈ wsX30, w ∈ wsX3_many := by decide +kernel
set_option maxHeartbeats 4000000 in
set_option maxRecDepth 100000 in
theorem zX3_many_12 (l : Launch) (D : va_G) (a : Nat → Nat) (cs : Nat → ClassId) (σ : sS) (fc : Nat) (hfc : fc ≤ 6) (hc : σ 0 3 = nI fc) : sMi l yX3_many wsX3_many ({ frames := 4, cells := 0, slots := 0, locals := 90 }) D a cs [.ref (a 0), .int (nI 12)] σ (f_X3_many σ fc 12) σ := by
  intro sz
  refine Met.ofW (cc := cX3_many) (maxL := 2) (ret := (some .int)) (by decide) rfl ?_
  intro p e s m args below meth c s₁ B hml hv
  obtain ⟨rfl, hsz, hv2⟩ := hv
  have hv3 : sB D a cs σ sz s := ⟨hsz, hv2⟩
  subst hsz
  have hw := sH_start hv3
  obtain ⟨-, -, hK, -, hN⟩ := hv3
  have hx := B.exec
  have hb := B.bytes
  have hr := B.returns
  have hts := atoms_spec (ws := wsX3_many) B.pre
  have hown : s.vm.findClass RX3 = some m.cls := findClass_of_methodNamed B.named
  have hlocks := B.notSynchronized
  have hA : ∀ q : Nat, s.heap.size ≤ q → sA a s.heap.size q := sA_new
  have hl := lv_entry ([.ref (a 0), .int (nI 12)]) (n := 2) (Nat.le_of_ble_eq_true rfl)
  rw [lg_entry_eq]
  generalize (lg_sl ([.ref (a 0), .int (nI 12)]) ++ List.replicate (2 - (lg_sl ([.ref (a 0), .int (nI 12)])).length) Slot.unset).toArray = ls at hl ⊢
  have hl : lv_has ls 2 [(0, .ref (a 0)), (1, .int (nI 12))] := hl
  refine lv_iload_n hx hb dX3_many_0 rfl (lv_at hl 1 rfl) ?_
  refine lv_tableIn (tgt := 171) hx hb dX3_many_1 (by decide) (by decide) (off := 170) (by decide +kernel) (by decide) ?_
  refine lv_aload_n hx hb dX3_many_171 rfl (lv_at hl 0 rfl) ?_
  refine sg_oq hx hb hts iX3_many_X3_12 hown hK hw 0 (Or.inl ⟨rfl, rfl⟩) (hts _ mX3_many_0_12) dX3_many_172 ?_
  refine lv_bipush (v := 7) hx hb dX3_many_175 (by decide) ?_
  refine sc_i (sr_V (i := 1 + 0) (As := [.int 7]) (rest := []) ⟨hx, hb, hml, hown, hts⟩ (zX2_sumOfPonds l D a cs _ 0 (by omega) 7 (by decide) _) (cwV 1 hts gX3_many_X2_sumOfPonds rfl rfl rfl (by decide +kernel) ⟨Nat.le_of_ble_eq_true rfl, Nat.le_of_ble_eq_true rfl⟩) hK hN hw (by omega) (sE_r (by omega)) kcX2 rfl hl.1 (Nat.le_of_ble_eq_true rfl) dX3_many_177 ⟨Nat.le_of_ble_eq_true rfl, Nat.le_of_ble_eq_true rfl⟩) hw hA (fun H locs hw => ?_)
  exact se_i hx hb hr hlocks hw (by exact rfl) (by rfl) dX3_many_180
theorem mX3_many_0_13 : (Cond.fieldLink RX3 249 "SaltRow" "cloisterDirt" "I") ∈ wsX3_many := by decide +kernel
theorem iX3_many_X3_13 : ∀ w ∈ wsX30, w ∈ wsX3_many := by decide +kernel
set_option maxHeartbeats 4000000 in
set_option maxRecDepth 100000 in
theorem zX3_many_13 (l : Launch) (D : va_G) (a : Nat → Nat) (cs : Nat → ClassId) (σ : sS) (fc : Nat) (hfc : fc ≤ 6) (hc : σ 0 3 = nI fc) : sMi l yX3_many wsX3_many ({ frames := 4, cells := 0, slots := 0, locals := 90 }) D a cs [.ref (a 0), .int (nI 13)] σ (f_X3_many σ fc 13) σ := by
  intro sz
  refine Met.ofW (cc := cX3_many) (maxL := 2) (ret := (some .int)) (by decide) rfl ?_
  intro p e s m args below meth c s₁ B hml hv
  obtain ⟨rfl, hsz, hv2⟩ := hv
  have hv3 : sB D a cs σ sz s := ⟨hsz, hv2⟩
  subst hsz
  have hw := sH_start hv3
  obtain ⟨-, -, hK, -, hN⟩ := hv3
  have hx := B.exec
  have hb := B.bytes
  have hr := B.returns
  have hts := atoms_spec (ws := wsX3_many) B.pre
  have hown : s.vm.findClass RX3 = some m.cls := findClass_of_methodNamed B.named
  have hlocks := B.notSynchronized
  have hA : ∀ q : Nat, s.heap.size ≤ q → sA a s.heap.size q := sA_new
  have hl := lv_entry ([.ref (a 0), .int (nI 13)]) (n := 2) (Nat.le_of_ble_eq_true rfl)
  rw [lg_entry_eq]
  generalize (lg_sl ([.ref (a 0), .int (nI 13)]) ++ List.replicate (2 - (lg_sl ([.ref (a 0), .int (nI 13)])).length) Slot.unset).toArray = ls at hl ⊢
  have hl : lv_has ls 2 [(0, .ref (a 0)), (1, .int (nI 13))] := hl
  refine lv_iload_n hx hb dX3_many_0 rfl (lv_at hl 1 rfl) ?_
  refine lv_tableIn (tgt := 181) hx hb dX3_many_1 (by decide) (by decide) (off := 180) (by decide +kernel) (by decide) ?_
  refine lv_aload_n hx hb dX3_many_181 rfl (lv_at hl 0 rfl) ?_
  refine sg_o hx hb hts iX3_many_X3_13 hown hK hw 8 (by decide) (hts _ mX3_many_0_13) dX3_many_182 ?_
  exact se_i hx hb hr hlocks hw (by exact rfl) (by rfl) dX3_many_185
theorem mX3_many_0_14 : (Cond.fieldLink RX3 10 "SaltRow" "row" "LSaltRow$Row;") ∈ wsX3_many := by decide +kernel
theorem iX3_many_X3_14 : ∀ w ∈ wsX30, w ∈ wsX3_many := by decide +kernel
set_option maxHeartbeats 4000000 in
set_option maxRecDepth 100000 in
theorem zX3_many_14 (l : Launch) (D : va_G) (a : Nat → Nat) (cs : Nat → ClassId) (σ : sS) (fc : Nat) (hfc : fc ≤ 6) (hc : σ 0 3 = nI fc) : sMi l yX3_many wsX3_many ({ frames := 4, cells := 0, slots := 0, locals := 90 }) D a cs [.ref (a 0), .int (nI 14)] σ (f_X3_many σ fc 14) σ := by
  intro sz
  refine Met.ofW (cc := cX3_many) (maxL := 2) (ret := (some .int)) (by decide) rfl ?_
  intro p e s m args below meth c s₁ B hml hv
  obtain ⟨rfl, hsz, hv2⟩ := hv
  have hv3 : sB D a cs σ sz s := ⟨hsz, hv2⟩
  subst hsz
  have hw := sH_start hv3
  obtain ⟨-, -, hK, -, hN⟩ := hv3
  have hx := B.exec
  have hb := B.bytes
  have hr := B.returns
  have hts := atoms_spec (ws := wsX3_many) B.pre
  have hown : s.vm.findClass RX3 = some m.cls := findClass_of_methodNamed B.named
  have hlocks := B.notSynchronized
  have hA : ∀ q : Nat, s.heap.size ≤ q → sA a s.heap.size q := sA_new
  have hl := lv_entry ([.ref (a 0), .int (nI 14)]) (n := 2) (Nat.le_of_ble_eq_true rfl)
  rw [lg_entry_eq]
  generalize (lg_sl ([.ref (a 0), .int (nI 14)]) ++ List.replicate (2 - (lg_sl ([.ref (a 0), .int (nI 14)])).length) Slot.unset).toArray = ls at hl ⊢
  have hl : lv_has ls 2 [(0, .ref (a 0)), (1, .int (nI 14))] := hl
  refine lv_iload_n hx hb dX3_many_0 rfl (lv_at hl 1 rfl) ?_
  refine lv_tableIn (tgt := 186) hx hb dX3_many_1 (by decide) (by decide) (off := 185) (by decide +kernel) (by decide) ?_
  refine lv_aload_n hx hb dX3_many_186 rfl (lv_at hl 0 rfl) ?_
  refine sg_oq hx hb hts iX3_many_X3_14 hown hK hw 0 (Or.inl ⟨rfl, rfl⟩) (hts _ mX3_many_0_14) dX3_many_187 ?_
  refine lv_iconst (v := 1) hx hb dX3_many_190 (by decide) ?_
  refine sc_i (sr_V (i := 1 + 0) (As := [.int 1]) (rest := []) ⟨hx, hb, hml, hown, hts⟩ (zX2_sumOfPonds l D a cs _ 0 (by omega) 1 (by decide) _) (cwV 1 hts gX3_many_X2_sumOfPonds rfl rfl rfl (by decide +kernel) ⟨Nat.le_of_ble_eq_true rfl, Nat.le_of_ble_eq_true rfl⟩) hK hN hw (by omega) (sE_r (by omega)) kcX2 rfl hl.1 (Nat.le_of_ble_eq_true rfl) dX3_many_191 ⟨Nat.le_of_ble_eq_true rfl, Nat.le_of_ble_eq_true rfl⟩) hw hA (fun H locs hw => ?_)
  exact se_i hx hb hr hlocks hw (by exact rfl) (by rfl) dX3_many_194
theorem mX3_many_0_15 : (Cond.fieldLink RX3 10 "SaltRow" "row" "LSaltRow$Row;") ∈ wsX3_many := by decide +kernel
theorem iX3_many_X3_15 : ∀ w ∈ wsX30, w ∈ wsX3_many := by decide +kernel
set_option maxHeartbeats 4000000 in
set_option maxRecDepth 100000 in
theorem zX3_many_15 (l : Launch) (D : va_G) (a : Nat → Nat) (cs : Nat → ClassId) (σ : sS) (fc : Nat) (hfc : fc ≤ 6) (hc : σ 0 3 = nI fc) : sMi l yX3_many wsX3_many ({ frames := 4, cells := 0, slots := 0, locals := 90 }) D a cs [.ref (a 0), .int (nI 15)] σ (f_X3_many σ fc 15) σ := by
  intro sz
  refine Met.ofW (cc := cX3_many) (maxL := 2) (ret := (some .int)) (by decide) rfl ?_
  intro p e s m args below meth c s₁ B hml hv
  obtain ⟨rfl, hsz, hv2⟩ := hv
  have hv3 : sB D a cs σ sz s := ⟨hsz, hv2⟩
  subst hsz
  have hw := sH_start hv3
  obtain ⟨-, -, hK, -, hN⟩ := hv3
  have hx := B.exec
  have hb := B.bytes
  have hr := B.returns
  have hts := atoms_spec (ws := wsX3_many) B.pre
  have hown : s.vm.findClass RX3 = some m.cls := findClass_of_methodNamed B.named
  have hlocks := B.notSynchronized
  have hA : ∀ q : Nat, s.heap.size ≤ q → sA a s.heap.size q := sA_new
  have hl := lv_entry ([.ref (a 0), .int (nI 15)]) (n := 2) (Nat.le_of_ble_eq_true rfl)
  rw [lg_entry_eq]
  generalize (lg_sl ([.ref (a 0), .int (nI 15)]) ++ List.replicate (2 - (lg_sl ([.ref (a 0), .int (nI 15)])).length) Slot.unset).toArray = ls at hl ⊢
  have hl : lv_has ls 2 [(0, .ref (a 0)), (1, .int (nI 15))] := hl
  refine lv_iload_n hx hb dX3_many_0 rfl (lv_at hl 1 rfl) ?_
  refine lv_tableIn (tgt := 195) hx hb dX3_many_1 (by decide) (by decide) (off := 194) (by decide +kernel) (by decide) ?_
  refine lv_aload_n hx hb dX3_many_195 rfl (lv_at hl 0 rfl) ?_
  refine sg_oq hx hb hts iX3_many_X3_15 hown hK hw 0 (Or.inl ⟨rfl, rfl⟩) (hts _ mX3_many_0_15) dX3_many_196 ?_
  refine lv_iconst (v := 5) hx hb dX3_many_199 (by decide) ?_
  refine sc_i (sr_V (i := 1 + 0) (As := [.int 5]) (rest := []) ⟨hx, hb, hml, hown, hts⟩ (zX2_sumOfPonds l D a cs _ 0 (by omega) 5 (by decide) _) (cwV 1 hts gX3_many_X2_sumOfPonds rfl rfl rfl (by decide +kernel) ⟨Nat.le_of_ble_eq_true rfl, Nat.le_of_ble_eq_true rfl⟩) hK hN hw (by omega) (sE_r (by omega)) kcX2 rfl hl.1 (Nat.le_of_ble_eq_true rfl) dX3_many_200 ⟨Nat.le_of_ble_eq_true rfl, Nat.le_of_ble_eq_true rfl⟩) hw hA (fun H locs hw => ?_)
  exact se_i hx hb hr hlocks hw (by exact rfl) (by rfl) dX3_many_203
theorem mX3_many_0_16 : (Cond.fieldLink RX3 86 "SaltRow" "skimmed" "I") ∈ wsX3_many := by decide +kernel
theorem iX3_many_X3_16 : ∀ w ∈ wsX30, w ∈ wsX3_many := by decide +kernel
set_option maxHeartbeats 4000000 in
set_option maxRecDepth 100000 in
theorem zX3_many_16 (l : Launch) (D : va_G) (a : Nat → Nat) (cs : Nat → ClassId) (σ : sS) (fc : Nat) (hfc : fc ≤ 6) (hc : σ 0 3 = nI fc) : sMi l yX3_many wsX3_many ({ frames := 4, cells := 0, slots := 0, locals := 90 }) D a cs [.ref (a 0), .int (nI 16)] σ (f_X3_many σ fc 16) σ := by
  intro sz
  refine Met.ofW (cc := cX3_many) (maxL := 2) (ret := (some .int)) (by decide) rfl ?_
  intro p e s m args below meth c s₁ B hml hv
  obtain ⟨rfl, hsz, hv2⟩ := hv
  have hv3 : sB D a cs σ sz s := ⟨hsz, hv2⟩
  subst hsz
  have hw := sH_start hv3
  obtain ⟨-, -, hK, -, hN⟩ := hv3
  have hx := B.exec
  have hb := B.bytes
  have hr := B.returns
  have hts := atoms_spec (ws := wsX3_many) B.pre
  have hown : s.vm.findClass RX3 = some m.cls := findClass_of_methodNamed B.named
  have hlocks := B.notSynchronized
  have hA : ∀ q : Nat, s.heap.size ≤ q → sA a s.heap.size q := sA_new
  have hl := lv_entry ([.ref (a 0), .int (nI 16)]) (n := 2) (Nat.le_of_ble_eq_true rfl)
  rw [lg_entry_eq]
  generalize (lg_sl ([.ref (a 0), .int (nI 16)]) ++ List.replicate (2 - (lg_sl ([.ref (a 0), .int (nI 16)])).length) Slot.unset).toArray = ls at hl ⊢
  have hl : lv_has ls 2 [(0, .ref (a 0)), (1, .int (nI 16))] := hl
  refine lv_iload_n hx hb dX3_many_0 rfl (lv_at hl 1 rfl) ?_
  refine lv_tableIn (tgt := 204) hx hb dX3_many_1 (by decide) (by decide) (off := 203) (by decide +kernel) (by decide) ?_
  refine lv_aload_n hx hb dX3_many_204 rfl (lv_at hl 0 rfl) ?_
  refine sg_o hx hb hts iX3_many_X3_16 hown hK hw 4 (by decide) (hts _ mX3_many_0_16) dX3_many_205 ?_
  exact se_i hx hb hr hlocks hw (by exact rfl) (by rfl) dX3_many_208
theorem mX3_many_0_17 : (Cond.fieldLink RX3 119 "SaltRow" "worksCoins" "I") ∈ wsX3_many := by decide +kernel
theorem iX3_many_X3_17 : ∀ w ∈ wsX30, w ∈ wsX3_many := by decide +kernel
set_option maxHeartbeats 4000000 in
set_option maxRecDepth 100000 in
theorem zX3_many_17 (l : Launch) (D : va_G) (a : Nat → Nat) (cs : Nat → ClassId) (σ : sS) (fc : Nat) (hfc : fc ≤ 6) (hc : σ 0 3 = nI fc) : sMi l yX3_many wsX3_many ({ frames := 4, cells := 0, slots := 0, locals := 90 }) D a cs [.ref (a 0), .int (nI 17)] σ (f_X3_many σ fc 17) σ := by
  intro sz
  refine Met.ofW (cc := cX3_many) (maxL := 2) (ret := (some .int)) (by decide) rfl ?_
  intro p e s m args below meth c s₁ B hml hv
  obtain ⟨rfl, hsz, hv2⟩ := hv
  have hv3 : sB D a cs σ sz s := ⟨hsz, hv2⟩
  subst hsz
  have hw := sH_start hv3
  obtain ⟨-, -, hK, -, hN⟩ := hv3
  have hx := B.exec
  have hb := B.bytes
  have hr := B.returns
  have hts := atoms_spec (ws := wsX3_many) B.pre
  have hown : s.vm.findClass RX3 = some m.cls := findClass_of_methodNamed B.named
  have hlocks := B.notSynchronized
  have hA : ∀ q : Nat, s.heap.size ≤ q → sA a s.heap.size q := sA_new
  have hl := lv_entry ([.ref (a 0), .int (nI 17)]) (n := 2) (Nat.le_of_ble_eq_true rfl)
  rw [lg_entry_eq]
  generalize (lg_sl ([.ref (a 0), .int (nI 17)]) ++ List.replicate (2 - (lg_sl ([.ref (a 0), .int (nI 17)])).length) Slot.unset).toArray = ls at hl ⊢
  have hl : lv_has ls 2 [(0, .ref (a 0)), (1, .int (nI 17))] := hl
  refine lv_iload_n hx hb dX3_many_0 rfl (lv_at hl 1 rfl) ?_
  refine lv_tableIn (tgt := 209) hx hb dX3_many_1 (by decide) (by decide) (off := 208) (by decide +kernel) (by decide) ?_
  refine lv_aload_n hx hb dX3_many_209 rfl (lv_at hl 0 rfl) ?_
  refine sg_o hx hb hts iX3_many_X3_17 hown hK hw 9 (by decide) (hts _ mX3_many_0_17) dX3_many_210 ?_
  exact se_i hx hb hr hlocks hw (by exact rfl) (by rfl) dX3_many_213
theorem zX3_many (l : Launch) (D : va_G) (a : Nat → Nat) (cs : Nat → ClassId) (σ : sS) (fc : Nat) (hfc : fc ≤ 6) (hc : σ 0 3 = nI fc) (k : Nat) (hk : k < 18) : sMi l yX3_many wsX3_many ({ frames := 4, cells := 0, slots := 0, locals := 90 }) D a cs [.ref (a 0), .int (nI k)] σ (f_X3_many σ fc k) σ := by
  rcases (show k = 0 ∨ k = 1 ∨ k = 2 ∨ k = 3 ∨ k = 4 ∨ k = 5 ∨ k = 6 ∨ k = 7 ∨ k = 8 ∨ k = 9 ∨ k = 10 ∨ k = 11 ∨ k = 12 ∨ k = 13 ∨ k = 14 ∨ k = 15 ∨ k = 16 ∨ k = 17 by omega) with rfl | rfl | rfl | rfl | rfl | rfl | rfl | rfl | rfl | rfl | rfl | rfl | rfl | rfl | rfl | rfl | rfl | rfl
  · exact zX3_many_0 l D a cs σ fc hfc hc
  · exact zX3_many_1 l D a cs σ fc hfc hc
  · exact zX3_many_2 l D a cs σ fc hfc hc
  · exact zX3_many_3 l D a cs σ fc hfc hc
  · exact zX3_many_4 l D a cs σ fc hfc hc
  · exact zX3_many_5 l D a cs σ fc hfc hc
  · exact zX3_many_6 l D a cs σ fc hfc hc
  · exact zX3_many_7 l D a cs σ fc hfc hc
  · exact zX3_many_8 l D a cs σ fc hfc hc
  · exact zX3_many_9 l D a cs σ fc hfc hc
  · exact zX3_many_10 l D a cs σ fc hfc hc
  · exact zX3_many_11 l D a cs σ fc hfc hc
  · exact zX3_many_12 l D a cs σ fc hfc hc
  · exact zX3_many_13 l D a cs σ fc hfc hc
  · exact zX3_many_14 l D a cs σ fc hfc hc
  · exact zX3_many_15 l D a cs σ fc hfc hc
  · exact zX3_many_16 l D a cs σ fc hfc hc
  · exact zX3_many_17 l D a cs σ fc hfc hc
theorem mX3_saltInPansWith_0 : (Cond.fieldLink RX3 16 "SaltRow" "trial" "LSaltRow$Row;") ∈ wsX3_saltInPansWith := by decide +kernel
theorem iX3_saltInPansWith_X3 : ∀ w ∈ wsX30, w ∈ wsX3_saltInPansWith := by decide +kernel
theorem mX3_saltInPansWith_2 : (Cond.fieldLink RX3 10 "SaltRow" "row" "LSaltRow$Row;") ∈ wsX3_saltInPansWith := by decide +kernel
set_option maxHeartbeats 4000000 in
set_option maxRecDepth 100000 in
theorem zX3_saltInPansWith (l : Launch) (D : va_G) (a : Nat → Nat) (cs : Nat → ClassId) (σ : sS) (hz : sZ σ) (g d : Nat) (x y : Int32) (hd : d < 2 ^ 31) : sMi l yX3_saltInPansWith wsX3_saltInPansWith ({ frames := 4, cells := 0, slots := 0, locals := 99 }) D a cs [.ref (a 0), .int (nI g), .int (nI d), .int x, .int y] σ (f_X3_withV σ g d x y) (f_X3_withS σ g d x y) := by
  intro sz
  refine Met.ofW (cc := cX3_saltInPansWith) (maxL := 6) (ret := (some .int)) (by decide) rfl ?_
  intro p e s m args below meth c s₁ B hml hv
  obtain ⟨rfl, hsz, hv2⟩ := hv
  have hv3 : sB D a cs σ sz s := ⟨hsz, hv2⟩
  subst hsz
  have hw := sH_start hv3
  obtain ⟨-, -, hK, -, hN⟩ := hv3
  have hx := B.exec
  have hb := B.bytes
  have hr := B.returns
  have hts := atoms_spec (ws := wsX3_saltInPansWith) B.pre
  have hown : s.vm.findClass RX3 = some m.cls := findClass_of_methodNamed B.named
  have hlocks := B.notSynchronized
  have hA : ∀ q : Nat, s.heap.size ≤ q → sA a s.heap.size q := sA_new
  have hl := lv_entry ([.ref (a 0), .int (nI g), .int (nI d), .int x, .int y]) (n := 6) (Nat.le_of_ble_eq_true rfl)
  rw [lg_entry_eq]
  generalize (lg_sl ([.ref (a 0), .int (nI g), .int (nI d), .int x, .int y]) ++ List.replicate (6 - (lg_sl ([.ref (a 0), .int (nI g), .int (nI d), .int x, .int y])).length) Slot.unset).toArray = ls at hl ⊢
  have hl : lv_has ls 6 [(0, .ref (a 0)), (1, .int (nI g)), (2, .int (nI d)), (3, .int x), (4, .int y)] := hl
  refine lv_aload_n hx hb dX3_saltInPansWith_0 rfl (lv_at hl 0 rfl) ?_
  refine sg_oq hx hb hts iX3_saltInPansWith_X3 hown hK hw 1 (Or.inr (Or.inl ⟨rfl, rfl⟩)) (hts _ mX3_saltInPansWith_0) dX3_saltInPansWith_1 ?_
  refine lv_aload_n hx hb dX3_saltInPansWith_4 rfl (lv_at hl 0 rfl) ?_
  refine sg_oq hx hb hts iX3_saltInPansWith_X3 hown hK hw 0 (Or.inl ⟨rfl, rfl⟩) (hts _ mX3_saltInPansWith_2) dX3_saltInPansWith_5 ?_
  refine sc_v (sr_V (i := 1 + 1) (As := [.ref (a 1)]) (rest := []) ⟨hx, hb, hml, hown, hts⟩ (zX2_copyFrom l D a cs _ hz _) (cwV 1 hts gX3_saltInPansWith_X2_copyFrom rfl rfl rfl (by decide +kernel) ⟨Nat.le_of_ble_eq_true rfl, Nat.le_of_ble_eq_true rfl⟩) hK hN hw (by omega) (sE_r (by omega)) kcX2 rfl hl.1 (Nat.le_of_ble_eq_true rfl) dX3_saltInPansWith_8 ⟨Nat.le_of_ble_eq_true rfl, Nat.le_of_ble_eq_true rfl⟩) hw hA (fun H locs hw => ?_)
  obtain ⟨τ1, eτ1⟩ : ∃ zz : sS, f_X2_copyFrom σ = zz := ⟨_, rfl⟩
  rw [eτ1] at hw
  refine lv_aload_n hx hb dX3_saltInPansWith_11 rfl (lv_at hl 0 rfl) ?_
  refine sg_oq hx hb hts iX3_saltInPansWith_X3 hown hK hw 1 (Or.inr (Or.inl ⟨rfl, rfl⟩)) (hts _ mX3_saltInPansWith_0) dX3_saltInPansWith_12 ?_
  refine lv_iload_n hx hb dX3_saltInPansWith_15 rfl (lv_at hl 1 rfl) ?_
  refine sc_v (sr_V (i := 1 + 1) (As := [.int (nI g)]) (rest := []) ⟨hx, hb, hml, hown, hts⟩ (zX2_setGates l D a cs _ 1 (by omega) (nI g) _) (cwV 1 hts gX3_saltInPansWith_X2_setGates rfl rfl rfl (by decide +kernel) ⟨Nat.le_of_ble_eq_true rfl, Nat.le_of_ble_eq_true rfl⟩) hK hN hw (by omega) (sE_r (by omega)) kcX2 rfl hl.1 (Nat.le_of_ble_eq_true rfl) dX3_saltInPansWith_16 ⟨Nat.le_of_ble_eq_true rfl, Nat.le_of_ble_eq_true rfl⟩) hw hA (fun H locs hw => ?_)
  obtain ⟨τ2, eτ2⟩ : ∃ zz : sS, f_X2_setGates τ1 1 (nI g) = zz := ⟨_, rfl⟩
  rw [eτ2] at hw
  refine lv_iconst (v := 0) hx hb dX3_saltInPansWith_19 (by decide) ?_
  refine lv_istore (lv' := [(5, .int 0), (0, .ref (a 0)), (1, .int (nI g)), (2, .int (nI d)), (3, .int x), (4, .int y)]) hx hb dX3_saltInPansWith_20 hl (by decide) rfl (fun ls hl => ?_)
  have loop : ∀ (Q : State → Prop) (n : Nat) (k : Nat) (τ : sS)  (H : Heap) (locs : List Loc) (ls : Array Slot), k + n = d → sH D a cs (sA a s.heap.size) s.heap τ H locs → lv_has ls 6 [(0, .ref (a 0)), (2, .int (nI d)), (3, .int x), (4, .int y), (5, .int (nI k))] → (∀ (H : Heap) (locs : List Loc) (ls : Array Slot), sH D a cs (sA a s.heap.size) s.heap (f_X3_days 1 x y 0 n τ) H locs → lv_has ls 6 [(0, .ref (a 0))] → W p l e { frames := 4, cells := 0, slots := 0, locals := 99 } s m #[Value.ref (a 0), Value.int (nI g), Value.int (nI d), Value.int x, Value.int y] below meth c H locs 0 0 Q (F0 m 45 ls [])) → W p l e { frames := 4, cells := 0, slots := 0, locals := 99 } s m #[Value.ref (a 0), Value.int (nI g), Value.int (nI d), Value.int x, Value.int y] below meth c H locs 0 0 Q (F0 m 22 ls []) := by
    intro Q n
    induction n with
    | zero =>
      intro k τ  H locs ls hkn hw hl kont
      refine lv_iload hx hb dX3_saltInPansWith_22 (lv_at hl 4 rfl) ?_
      refine lv_iload_n hx hb dX3_saltInPansWith_24 rfl (lv_at hl 1 rfl) ?_
      refine lv_icmp_ge (tgt := 45) hx hb dX3_saltInPansWith_25 (by decide) (fun c3 => ?_) (fun c3 => absurd (by rw [show k = d by omega]; exact Int32.le_refl _) c3)
      exact kont H locs ls hw (lv_sub hl [0] rfl)
    | succ n ih =>
      intro k τ  H locs ls hkn hw hl kont
      refine lv_iload hx hb dX3_saltInPansWith_22 (lv_at hl 4 rfl) ?_
      refine lv_iload_n hx hb dX3_saltInPansWith_24 rfl (lv_at hl 1 rfl) ?_
      refine lv_icmp_ge (tgt := 45) hx hb dX3_saltInPansWith_25 (by decide) (fun c4 => absurd c4 (nI_ge (by omega) (by omega))) (fun c4 => ?_)
      refine lv_aload_n hx hb dX3_saltInPansWith_28 rfl (lv_at hl 0 rfl) ?_
      refine sg_oq hx hb hts iX3_saltInPansWith_X3 hown hK hw 1 (Or.inr (Or.inl ⟨rfl, rfl⟩)) (hts _ mX3_saltInPansWith_0) dX3_saltInPansWith_29 ?_
      refine lv_iload_n hx hb dX3_saltInPansWith_32 rfl (lv_at hl 2 rfl) ?_
      refine lv_iload hx hb dX3_saltInPansWith_33 (lv_at hl 3 rfl) ?_
      refine lv_iconst (v := 0) hx hb dX3_saltInPansWith_35 (by decide) ?_
      refine sc_v (sr_V (i := 1 + 1) (As := [.int x, .int y, .int 0]) (rest := []) ⟨hx, hb, hml, hown, hts⟩ (zX2_letDayGoBy l D a cs _ 1 (by omega) x y 0 _) (cwV 3 hts gX3_saltInPansWith_X2_letDayGoBy rfl rfl rfl (by decide +kernel) ⟨Nat.le_of_ble_eq_true rfl, Nat.le_of_ble_eq_true rfl⟩) hK hN hw (by omega) (sE_r (by omega)) kcX2 rfl hl.1 (Nat.le_of_ble_eq_true rfl) dX3_saltInPansWith_36 ⟨Nat.le_of_ble_eq_true rfl, Nat.le_of_ble_eq_true rfl⟩) hw hA (fun H locs hw => ?_)
      obtain ⟨τ5, eτ5⟩ : ∃ zz : sS, f_X2_letDayGoBy τ 1 x y 0 = zz := ⟨_, rfl⟩
      rw [eτ5] at hw
      refine lv_iinc (v := nI (k + 1)) (lv' := [(5, .int (nI (k + 1))), (0, .ref (a 0)), (2, .int (nI d)), (3, .int x), (4, .int y)]) hx hb dX3_saltInPansWith_39 hl (k := 4) rfl (nI_1 k) (by decide) rfl (fun ls hl => ?_)
      refine lv_goto (tgt := 22) hx hb dX3_saltInPansWith_42 (by decide) ?_
      have hstep : f_X3_days 1 x y 0 (n + 1) τ = f_X3_days 1 x y 0 n τ5 := by
        subst eτ5; rfl
      exact ih (k + 1) τ5  H locs ls (by omega) hw (lv_sub hl [1, 2, 3, 4, 0] rfl) (fun H locs ls hw hl => kont H locs ls (by rw [hstep]; exact hw) (by exact hl))
  refine loop _ d 0 τ2  _ _ _ (Nat.zero_add d) hw (lv_sub hl [1, 3, 4, 5, 0] rfl) (fun H locs ls hw hl => ?_)
  obtain ⟨τ6, eτ6⟩ : ∃ zz : sS, f_X3_days 1 x y 0 d τ2 = zz := ⟨_, rfl⟩
  rw [eτ6] at hw
  refine lv_aload_n hx hb dX3_saltInPansWith_45 rfl (lv_at hl 0 rfl) ?_
  refine sg_oq hx hb hts iX3_saltInPansWith_X3 hown hK hw 1 (Or.inr (Or.inl ⟨rfl, rfl⟩)) (hts _ mX3_saltInPansWith_0) dX3_saltInPansWith_46 ?_
  refine sc_i (sr_V (i := 1 + 1) (As := []) (rest := []) ⟨hx, hb, hml, hown, hts⟩ (zX2_saltInPans l D a cs _ 1 (by omega) _) (cwV 0 hts gX3_saltInPansWith_X2_saltInPans rfl rfl rfl (by decide +kernel) ⟨Nat.le_of_ble_eq_true rfl, Nat.le_of_ble_eq_true rfl⟩) hK hN hw (by omega) (sE_r (by omega)) kcX2 rfl hl.1 (Nat.le_of_ble_eq_true rfl) dX3_saltInPansWith_49 ⟨Nat.le_of_ble_eq_true rfl, Nat.le_of_ble_eq_true rfl⟩) hw hA (fun H locs hw => ?_)
  exact se_i hx hb hr hlocks hw (by subst eτ6 eτ2 eτ1; exact rfl) (by subst eτ6 eτ2 eτ1; exact rfl) dX3_saltInPansWith_52
set_option maxHeartbeats 4000000 in
set_option maxRecDepth 100000 in
theorem zX3_bestGates (l : Launch) (D : va_G) (a : Nat → Nat) (cs : Nat → ClassId) (σ : sS) (hz : sZ σ) (d : Nat) (hd : 1 ≤ d ∧ d ≤ 9) (x y : Int32) (hx0 : ¬ x < 0) (hx9 : x ≤ 9) (hy0 : ¬ y < 0) (hy9 : y ≤ 9) : sMi l yX3_bestGates wsX3_bestGates ({ frames := 5, cells := 0, slots := 0, locals := 124 }) D a cs [.ref (a 0), .int (nI d), .int x, .int y] σ (f_X3_bestGates σ d x y) (f_X3_bestS d x y 256 0 σ) := by
  intro sz
  refine Met.ofW (cc := cX3_bestGates) (maxL := 8) (ret := (some .int)) (by decide) rfl ?_
  intro p e s m args below meth c s₁ B hml hv
  obtain ⟨rfl, hsz, hv2⟩ := hv
  have hv3 : sB D a cs σ sz s := ⟨hsz, hv2⟩
  subst hsz
  have hw := sH_start hv3
  obtain ⟨-, -, hK, -, hN⟩ := hv3
  have hx := B.exec
  have hb := B.bytes
  have hr := B.returns
  have hts := atoms_spec (ws := wsX3_bestGates) B.pre
  have hown : s.vm.findClass RX3 = some m.cls := findClass_of_methodNamed B.named
  have hlocks := B.notSynchronized
  have hA : ∀ q : Nat, s.heap.size ≤ q → sA a s.heap.size q := sA_new
  have hl := lv_entry ([.ref (a 0), .int (nI d), .int x, .int y]) (n := 8) (Nat.le_of_ble_eq_true rfl)
  rw [lg_entry_eq]
  generalize (lg_sl ([.ref (a 0), .int (nI d), .int x, .int y]) ++ List.replicate (8 - (lg_sl ([.ref (a 0), .int (nI d), .int x, .int y])).length) Slot.unset).toArray = ls at hl ⊢
  have hl : lv_has ls 8 [(0, .ref (a 0)), (1, .int (nI d)), (2, .int x), (3, .int y)] := hl
  refine lv_iload_n hx hb dX3_bestGates_0 rfl (lv_at hl 1 rfl) ?_
  refine lv_iconst (v := 1) hx hb dX3_bestGates_1 (by decide) ?_
  refine lv_icmp_lt (tgt := 11) hx hb dX3_bestGates_2 (by decide) (fun c1 => absurd c1 (nI_nlt (a := d) (b := 1) (by omega) (by omega))) (fun c1 => ?_)
  refine lv_iload_n hx hb dX3_bestGates_5 rfl (lv_at hl 1 rfl) ?_
  refine lv_bipush (v := 9) hx hb dX3_bestGates_6 (by decide) ?_
  refine lv_icmp_le (tgt := 22) hx hb dX3_bestGates_8 (by decide) (fun c2 => ?_) (fun c2 => absurd (nI_le (a := d) (b := 9) (by omega) (by decide)) c2)
  refine lv_aload_n hx hb dX3_bestGates_22 rfl (lv_at hl 0 rfl) ?_
  refine lv_iload_n hx hb dX3_bestGates_23 rfl (lv_at hl 2 rfl) ?_
  refine lv_iload_n hx hb dX3_bestGates_24 rfl (lv_at hl 3 rfl) ?_
  refine sc_v (sr_V (i := 0) (As := [.int x, .int y]) (rest := []) ⟨hx, hb, hml, hown, hts⟩ (zX3_needWeather l D a cs _ x y hx0 hx9 hy0 hy9 _) (cwV 2 hts gX3_bestGates_X3_needWeather rfl rfl rfl (by decide +kernel) ⟨Nat.le_of_ble_eq_true rfl, Nat.le_of_ble_eq_true rfl⟩) hK hN hw (by omega) sE_o kcX3 rfl hl.1 (Nat.le_of_ble_eq_true rfl) dX3_bestGates_25 ⟨Nat.le_of_ble_eq_true rfl, Nat.le_of_ble_eq_true rfl⟩) hw hA (fun H locs hw => ?_)
  refine lv_iconst (v := 0) hx hb dX3_bestGates_28 (by decide) ?_
  refine lv_istore (lv' := [(4, .int 0), (0, .ref (a 0)), (1, .int (nI d)), (2, .int x), (3, .int y)]) hx hb dX3_bestGates_29 hl (by decide) rfl (fun ls hl => ?_)
  refine lv_iconst (v := -1) hx hb dX3_bestGates_31 (by decide) ?_
  refine lv_istore (lv' := [(5, .int (-1)), (4, .int 0), (0, .ref (a 0)), (1, .int (nI d)), (2, .int x), (3, .int y)]) hx hb dX3_bestGates_32 hl (by decide) rfl (fun ls hl => ?_)
  refine lv_iconst (v := 0) hx hb dX3_bestGates_34 (by decide) ?_
  refine lv_istore (lv' := [(6, .int 0), (5, .int (-1)), (4, .int 0), (0, .ref (a 0)), (1, .int (nI d)), (2, .int x), (3, .int y)]) hx hb dX3_bestGates_35 hl (by decide) rfl (fun ls hl => ?_)
  have loop : ∀ (Q : State → Prop) (n : Nat) (k : Nat) (τ : sS) (v : Int32) (u : Int32) (H : Heap) (locs : List Loc) (ls : Array Slot), k + n = 256 ∧ sZ τ → sH D a cs (sA a s.heap.size) s.heap τ H locs → lv_has ls 8 [(0, .ref (a 0)), (1, .int (nI d)), (2, .int x), (3, .int y), (4, .int v), (5, .int u), (6, .int (nI k))] → (∀ (H : Heap) (locs : List Loc) (ls : Array Slot), sH D a cs (sA a s.heap.size) s.heap (f_X3_bestS d x y n k τ) H locs → lv_has ls 8 [(4, .int (f_X3_bestB d x y n k τ v u))] → W p l e { frames := 5, cells := 0, slots := 0, locals := 124 } s m #[Value.ref (a 0), Value.int (nI d), Value.int x, Value.int y] below meth c H locs 0 0 Q (F0 m 77 ls [])) → W p l e { frames := 5, cells := 0, slots := 0, locals := 124 } s m #[Value.ref (a 0), Value.int (nI d), Value.int x, Value.int y] below meth c H locs 0 0 Q (F0 m 37 ls []) := by
    intro Q n
    induction n with
    | zero =>
      intro k τ v u H locs ls hkn hw hl kont
      refine lv_iload hx hb dX3_bestGates_37 (lv_at hl 6 rfl) ?_
      refine lv_sipush (v := 256) hx hb dX3_bestGates_39 (by decide) ?_
      refine lv_icmp_ge (tgt := 77) hx hb dX3_bestGates_42 (by decide) (fun c3 => ?_) (fun c3 => absurd (by rw [show k = 256 by omega]; decide) c3)
      exact kont H locs ls hw (lv_sub hl [4] rfl)
    | succ n ih =>
      intro k τ v u H locs ls hkn hw hl kont
      refine lv_iload hx hb dX3_bestGates_37 (lv_at hl 6 rfl) ?_
      refine lv_sipush (v := 256) hx hb dX3_bestGates_39 (by decide) ?_
      refine lv_icmp_ge (tgt := 77) hx hb dX3_bestGates_42 (by decide) (fun c4 => absurd c4 (nI_ge (a := k) (b := 256) (by omega) (by decide))) (fun c4 => ?_)
      refine lv_aload_n hx hb dX3_bestGates_45 rfl (lv_at hl 0 rfl) ?_
      refine lv_iload hx hb dX3_bestGates_46 (lv_at hl 6 rfl) ?_
      refine lv_iload_n hx hb dX3_bestGates_48 rfl (lv_at hl 1 rfl) ?_
      refine lv_iload_n hx hb dX3_bestGates_49 rfl (lv_at hl 2 rfl) ?_
      refine lv_iload_n hx hb dX3_bestGates_50 rfl (lv_at hl 3 rfl) ?_
      refine sc_i (sr_V (i := 0) (As := [.int (nI k), .int (nI d), .int x, .int y]) (rest := []) ⟨hx, hb, hml, hown, hts⟩ (zX3_saltInPansWith l D a cs _ hkn.2 k d x y (by omega) _) (cwV 4 hts gX3_bestGates_X3_saltInPansWith rfl rfl rfl (by decide +kernel) ⟨Nat.le_of_ble_eq_true rfl, Nat.le_of_ble_eq_true rfl⟩) hK hN hw (by omega) sE_o kcX3 rfl hl.1 (Nat.le_of_ble_eq_true rfl) dX3_bestGates_51 ⟨Nat.le_of_ble_eq_true rfl, Nat.le_of_ble_eq_true rfl⟩) hw hA (fun H locs hw => ?_)
      obtain ⟨τ5, eτ5⟩ : ∃ zz : sS, f_X3_withS τ k d x y = zz := ⟨_, rfl⟩
      rw [eτ5] at hw
      refine lv_istore (lv' := [(7, .int (f_X3_withV τ k d x y)), (0, .ref (a 0)), (1, .int (nI d)), (2, .int x), (3, .int y), (4, .int v), (5, .int u), (6, .int (nI k))]) hx hb dX3_bestGates_54 hl (by decide) rfl (fun ls hl => ?_)
      refine lv_iload hx hb dX3_bestGates_56 (lv_at hl 0 rfl) ?_
      refine lv_iload hx hb dX3_bestGates_58 (lv_at hl 6 rfl) ?_
      refine lv_icmp_le (tgt := 71) hx hb dX3_bestGates_60 (by decide) (fun c6 => ?_) (fun c6 => ?_)
      · refine lv_iinc (v := nI (k + 1)) (lv' := [(6, .int (nI (k + 1))), (7, .int (f_X3_withV τ k d x y)), (0, .ref (a 0)), (1, .int (nI d)), (2, .int x), (3, .int y), (4, .int v), (5, .int u)]) hx hb dX3_bestGates_71 hl (k := 7) rfl (nI_1 k) (by decide) rfl (fun ls hl => ?_)
        refine lv_goto (tgt := 37) hx hb dX3_bestGates_74 (by decide) ?_
        have hstep : f_X3_bestS d x y (n + 1) k τ = f_X3_bestS d x y n (k + 1) τ5 := by
          subst eτ5; rfl
        have hval0 : f_X3_bestB d x y (n + 1) k τ v u = f_X3_bestB d x y n (k + 1) τ5 v u := by
          subst eτ5; simp only [f_X3_bestB, if_pos c6]
        have hval1 : f_X3_bestM d x y (n + 1) k τ u = f_X3_bestM d x y n (k + 1) τ5 u := by
          subst eτ5; simp only [f_X3_bestM, if_pos c6]
        exact ih (k + 1) τ5 v u H locs ls ⟨by omega, by subst eτ5; exact sZ_of hkn.2 (fun i hi => k_with hi)⟩ hw (lv_sub hl [2, 3, 4, 5, 6, 7, 0] rfl) (fun H locs ls hw hl => kont H locs ls (by rw [hstep]; exact hw) (by rw [hval0]; exact hl))
      · refine lv_iload hx hb dX3_bestGates_63 (lv_at hl 0 rfl) ?_
        refine lv_istore (lv' := [(5, .int (f_X3_withV τ k d x y)), (7, .int (f_X3_withV τ k d x y)), (0, .ref (a 0)), (1, .int (nI d)), (2, .int x), (3, .int y), (4, .int v), (6, .int (nI k))]) hx hb dX3_bestGates_65 hl (by decide) rfl (fun ls hl => ?_)
        refine lv_iload hx hb dX3_bestGates_67 (lv_at hl 7 rfl) ?_
        refine lv_istore (lv' := [(4, .int (nI k)), (5, .int (f_X3_withV τ k d x y)), (7, .int (f_X3_withV τ k d x y)), (0, .ref (a 0)), (1, .int (nI d)), (2, .int x), (3, .int y), (6, .int (nI k))]) hx hb dX3_bestGates_69 hl (by decide) rfl (fun ls hl => ?_)
        refine lv_iinc (v := nI (k + 1)) (lv' := [(6, .int (nI (k + 1))), (4, .int (nI k)), (5, .int (f_X3_withV τ k d x y)), (7, .int (f_X3_withV τ k d x y)), (0, .ref (a 0)), (1, .int (nI d)), (2, .int x), (3, .int y)]) hx hb dX3_bestGates_71 hl (k := 7) rfl (nI_1 k) (by decide) rfl (fun ls hl => ?_)
        refine lv_goto (tgt := 37) hx hb dX3_bestGates_74 (by decide) ?_
        have hstep : f_X3_bestS d x y (n + 1) k τ = f_X3_bestS d x y n (k + 1) τ5 := by
          subst eτ5; rfl
        have hval0 : f_X3_bestB d x y (n + 1) k τ v u = f_X3_bestB d x y n (k + 1) τ5 (nI k) (f_X3_withV τ k d x y) := by
          subst eτ5; simp only [f_X3_bestB, if_neg c6]
        have hval1 : f_X3_bestM d x y (n + 1) k τ u = f_X3_bestM d x y n (k + 1) τ5 (f_X3_withV τ k d x y) := by
          subst eτ5; simp only [f_X3_bestM, if_neg c6]
        exact ih (k + 1) τ5 (nI k) (f_X3_withV τ k d x y) H locs ls ⟨by omega, by subst eτ5; exact sZ_of hkn.2 (fun i hi => k_with hi)⟩ hw (lv_sub hl [4, 5, 6, 7, 1, 2, 0] rfl) (fun H locs ls hw hl => kont H locs ls (by rw [hstep]; exact hw) (by rw [hval0]; exact hl))
  refine loop _ 256 0 σ 0 (-1) _ _ _ ⟨by decide, hz⟩ hw (lv_sub hl [3, 4, 5, 6, 2, 1, 0] rfl) (fun H locs ls hw hl => ?_)
  obtain ⟨τ7, eτ7⟩ : ∃ zz : sS, f_X3_bestS d x y 256 0 σ = zz := ⟨_, rfl⟩
  rw [eτ7] at hw
  refine lv_iload hx hb dX3_bestGates_77 (lv_at hl 0 rfl) ?_
  exact se_i hx hb hr hlocks hw (by subst eτ7; exact rfl) (by subst eτ7; exact rfl) dX3_bestGates_79
theorem mX3_crustIn_0 : (Cond.fieldLink RX3 16 "SaltRow" "trial" "LSaltRow$Row;") ∈ wsX3_crustIn := by decide +kernel
theorem iX3_crustIn_X3 : ∀ w ∈ wsX30, w ∈ wsX3_crustIn := by decide +kernel
theorem mX3_crustIn_2 : (Cond.fieldLink RX3 10 "SaltRow" "row" "LSaltRow$Row;") ∈ wsX3_crustIn := by decide +kernel
theorem mX3_crustIn_3 : (Cond.fieldLink RX3 46 "SaltRow$Row" "ponds" "[LSaltRow$Pond;") ∈ wsX3_crustIn := by decide +kernel
theorem iX3_crustIn_X2 : ∀ w ∈ wsX20, w ∈ wsX3_crustIn := by decide +kernel
theorem mX3_crustIn_5 : (Cond.fieldLink RX3 258 "SaltRow$Pond" "saltFallen" "I") ∈ wsX3_crustIn := by decide +kernel
theorem iX3_crustIn_X1 : ∀ w ∈ wsX10, w ∈ wsX3_crustIn := by decide +kernel
set_option maxHeartbeats 4000000 in
set_option maxRecDepth 100000 in
theorem zX3_crustIn (l : Launch) (D : va_G) (a : Nat → Nat) (cs : Nat → ClassId) (σ : sS) (hz : sZ σ) (q : Nat) (hq : q < 3) (x y : Int32) (hx0 : ¬ x < 0) (hx9 : x ≤ 9) (hy0 : ¬ y < 0) (hy9 : y ≤ 9) : sMi l yX3_crustIn wsX3_crustIn ({ frames := 4, cells := 0, slots := 0, locals := 99 }) D a cs [.ref (a 0), .int (nI (5 + q)), .int x, .int y] σ (f_X3_crustInV σ q x y) (f_X3_crustIn σ q x y) := by
  intro sz
  refine Met.ofW (cc := cX3_crustIn) (maxL := 5) (ret := (some .int)) (by decide) rfl ?_
  intro p e s m args below meth c s₁ B hml hv
  obtain ⟨rfl, hsz, hv2⟩ := hv
  have hv3 : sB D a cs σ sz s := ⟨hsz, hv2⟩
  subst hsz
  have hw := sH_start hv3
  obtain ⟨-, -, hK, -, hN⟩ := hv3
  have hx := B.exec
  have hb := B.bytes
  have hr := B.returns
  have hts := atoms_spec (ws := wsX3_crustIn) B.pre
  have hown : s.vm.findClass RX3 = some m.cls := findClass_of_methodNamed B.named
  have hlocks := B.notSynchronized
  have hA : ∀ q : Nat, s.heap.size ≤ q → sA a s.heap.size q := sA_new
  have hl := lv_entry ([.ref (a 0), .int (nI (5 + q)), .int x, .int y]) (n := 5) (Nat.le_of_ble_eq_true rfl)
  rw [lg_entry_eq]
  generalize (lg_sl ([.ref (a 0), .int (nI (5 + q)), .int x, .int y]) ++ List.replicate (5 - (lg_sl ([.ref (a 0), .int (nI (5 + q)), .int x, .int y])).length) Slot.unset).toArray = ls at hl ⊢
  have hl : lv_has ls 5 [(0, .ref (a 0)), (1, .int (nI (5 + q))), (2, .int x), (3, .int y)] := hl
  refine lv_aload_n hx hb dX3_crustIn_0 rfl (lv_at hl 0 rfl) ?_
  refine lv_iload_n hx hb dX3_crustIn_1 rfl (lv_at hl 1 rfl) ?_
  refine sc_v (sr_V (i := 0) (As := [.int (nI (5 + q))]) (rest := []) ⟨hx, hb, hml, hown, hts⟩ (zX3_needPan l D a cs _ q (by omega) _) (cwV 1 hts gX3_crustIn_X3_needPan rfl rfl rfl (by decide +kernel) ⟨Nat.le_of_ble_eq_true rfl, Nat.le_of_ble_eq_true rfl⟩) hK hN hw (by omega) sE_o kcX3 rfl hl.1 (Nat.le_of_ble_eq_true rfl) dX3_crustIn_2 ⟨Nat.le_of_ble_eq_true rfl, Nat.le_of_ble_eq_true rfl⟩) hw hA (fun H locs hw => ?_)
  refine lv_aload_n hx hb dX3_crustIn_5 rfl (lv_at hl 0 rfl) ?_
  refine lv_iload_n hx hb dX3_crustIn_6 rfl (lv_at hl 2 rfl) ?_
  refine lv_iload_n hx hb dX3_crustIn_7 rfl (lv_at hl 3 rfl) ?_
  refine sc_v (sr_V (i := 0) (As := [.int x, .int y]) (rest := []) ⟨hx, hb, hml, hown, hts⟩ (zX3_needWeather l D a cs _ x y hx0 hx9 hy0 hy9 _) (cwV 2 hts gX3_crustIn_X3_needWeather rfl rfl rfl (by decide +kernel) ⟨Nat.le_of_ble_eq_true rfl, Nat.le_of_ble_eq_true rfl⟩) hK hN hw (by omega) sE_o kcX3 rfl hl.1 (Nat.le_of_ble_eq_true rfl) dX3_crustIn_8 ⟨Nat.le_of_ble_eq_true rfl, Nat.le_of_ble_eq_true rfl⟩) hw hA (fun H locs hw => ?_)
  refine lv_aload_n hx hb dX3_crustIn_11 rfl (lv_at hl 0 rfl) ?_
  refine sg_oq hx hb hts iX3_crustIn_X3 hown hK hw 1 (Or.inr (Or.inl ⟨rfl, rfl⟩)) (hts _ mX3_crustIn_0) dX3_crustIn_12 ?_
  refine lv_aload_n hx hb dX3_crustIn_15 rfl (lv_at hl 0 rfl) ?_
  refine sg_oq hx hb hts iX3_crustIn_X3 hown hK hw 0 (Or.inl ⟨rfl, rfl⟩) (hts _ mX3_crustIn_2) dX3_crustIn_16 ?_
  refine sc_v (sr_V (i := 1 + 1) (As := [.ref (a 1)]) (rest := []) ⟨hx, hb, hml, hown, hts⟩ (zX2_copyFrom l D a cs _ hz _) (cwV 1 hts gX3_crustIn_X2_copyFrom rfl rfl rfl (by decide +kernel) ⟨Nat.le_of_ble_eq_true rfl, Nat.le_of_ble_eq_true rfl⟩) hK hN hw (by omega) (sE_r (by omega)) kcX2 rfl hl.1 (Nat.le_of_ble_eq_true rfl) dX3_crustIn_19 ⟨Nat.le_of_ble_eq_true rfl, Nat.le_of_ble_eq_true rfl⟩) hw hA (fun H locs hw => ?_)
  obtain ⟨τ1, eτ1⟩ : ∃ zz : sS, f_X2_copyFrom σ = zz := ⟨_, rfl⟩
  rw [eτ1] at hw
  refine lv_iconst (v := 1) hx hb dX3_crustIn_22 (by decide) ?_
  refine lv_istore (lv' := [(4, .int 1), (0, .ref (a 0)), (1, .int (nI (5 + q))), (2, .int x), (3, .int y)]) hx hb dX3_crustIn_23 hl (by decide) rfl (fun ls hl => ?_)
  have loop : ∀ (n : Nat) (k : Nat) (τ : sS)  (H : Heap) (locs : List Loc) (ls : Array Slot), k + n = 61 → sH D a cs (sA a s.heap.size) s.heap τ H locs → lv_has ls 5 [(0, .ref (a 0)), (1, .int (nI (5 + q))), (2, .int x), (3, .int y), (4, .int (nI k))] → ∀ (V' : Int32) (S' : sS), f_X3_crustV q x y n k τ = V' → f_X3_crustS q x y n k τ = S' → W p l e { frames := 4, cells := 0, slots := 0, locals := 99 } s m #[Value.ref (a 0), Value.int (nI (5 + q)), Value.int x, Value.int y] below meth c H locs 0 0 (MQ below (va_Qi (fun r (_ : Unit) => r = V') (fun _ t => va_P D vwCl (sW a cs S') t.heap) (sA a s.heap.size)) #[Value.ref (a 0), Value.int (nI (5 + q)), Value.int x, Value.int y] s 0 0 (sA a s.heap.size)) (F0 m 25 ls []) := by
    intro n
    induction n with
    | zero =>
      intro k τ  H locs ls hkn hw hl V' S' hV hS
      refine lv_iload hx hb dX3_crustIn_25 (lv_at hl 4 rfl) ?_
      refine lv_bipush (v := 60) hx hb dX3_crustIn_27 (by decide) ?_
      refine lv_icmp_gt (tgt := 66) hx hb dX3_crustIn_29 (by decide) (fun c2 => ?_) (fun c2 => absurd (by rw [show k = 61 by omega]; decide) c2)
      refine lv_iconst (v := -1) hx hb dX3_crustIn_66 (by decide) ?_
      exact se_i hx hb hr hlocks hw (by exact hV) (by exact hS) dX3_crustIn_67
    | succ n ih =>
      intro k τ  H locs ls hkn hw hl V' S' hV hS
      refine lv_iload hx hb dX3_crustIn_25 (lv_at hl 4 rfl) ?_
      refine lv_bipush (v := 60) hx hb dX3_crustIn_27 (by decide) ?_
      refine lv_icmp_gt (tgt := 66) hx hb dX3_crustIn_29 (by decide) (fun c3 => absurd c3 (nI_nlt (a := 60) (b := k) (by omega) (by decide))) (fun c3 => ?_)
      refine lv_aload_n hx hb dX3_crustIn_32 rfl (lv_at hl 0 rfl) ?_
      refine sg_oq hx hb hts iX3_crustIn_X3 hown hK hw 1 (Or.inr (Or.inl ⟨rfl, rfl⟩)) (hts _ mX3_crustIn_0) dX3_crustIn_33 ?_
      refine lv_iload_n hx hb dX3_crustIn_36 rfl (lv_at hl 2 rfl) ?_
      refine lv_iload_n hx hb dX3_crustIn_37 rfl (lv_at hl 3 rfl) ?_
      refine lv_iconst (v := 0) hx hb dX3_crustIn_38 (by decide) ?_
      refine sc_v (sr_V (i := 1 + 1) (As := [.int x, .int y, .int 0]) (rest := []) ⟨hx, hb, hml, hown, hts⟩ (zX2_letDayGoBy l D a cs _ 1 (by omega) x y 0 _) (cwV 3 hts gX3_crustIn_X2_letDayGoBy rfl rfl rfl (by decide +kernel) ⟨Nat.le_of_ble_eq_true rfl, Nat.le_of_ble_eq_true rfl⟩) hK hN hw (by omega) (sE_r (by omega)) kcX2 rfl hl.1 (Nat.le_of_ble_eq_true rfl) dX3_crustIn_39 ⟨Nat.le_of_ble_eq_true rfl, Nat.le_of_ble_eq_true rfl⟩) hw hA (fun H locs hw => ?_)
      obtain ⟨τ4, eτ4⟩ : ∃ zz : sS, f_X2_letDayGoBy τ 1 x y 0 = zz := ⟨_, rfl⟩
      rw [eτ4] at hw
      refine lv_aload_n hx hb dX3_crustIn_42 rfl (lv_at hl 0 rfl) ?_
      refine sg_oq hx hb hts iX3_crustIn_X3 hown hK hw 1 (Or.inr (Or.inl ⟨rfl, rfl⟩)) (hts _ mX3_crustIn_0) dX3_crustIn_43 ?_
      refine sg_rq (r := 1) hx hb hts iX3_crustIn_X2 hown hK hw (by omega) (hts _ mX3_crustIn_3) dX3_crustIn_46 ?_
      refine lv_iload_n hx hb dX3_crustIn_49 rfl (lv_at hl 1 rfl) ?_
      refine sg_q (r := 1) (k := (5 + q)) hx hb hK hw (by omega) (by omega) rfl dX3_crustIn_50 ?_
      refine sg_p hx hb hts iX3_crustIn_X1 hown hK hw (by omega) 8 (by decide) (hts _ mX3_crustIn_5) dX3_crustIn_51 ?_
      refine lv_if_le (tgt := 60) hx hb dX3_crustIn_54 (by decide) (fun c5 => ?_) (fun c5 => ?_)
      · refine lv_iinc (v := nI (k + 1)) (lv' := [(4, .int (nI (k + 1))), (0, .ref (a 0)), (1, .int (nI (5 + q))), (2, .int x), (3, .int y)]) hx hb dX3_crustIn_60 hl (k := 4) rfl (nI_1 k) (by decide) rfl (fun ls hl => ?_)
        refine lv_goto (tgt := 25) hx hb dX3_crustIn_63 (by decide) ?_
        have hstep : f_X3_crustS q x y (n + 1) k τ = f_X3_crustS q x y n (k + 1) τ4 := by
          subst eτ4; simp only [f_X3_crustS, if_pos c5]
        have hstepv : f_X3_crustV q x y (n + 1) k τ = f_X3_crustV q x y n (k + 1) τ4 := by
          subst eτ4; simp only [f_X3_crustV, if_pos c5]
        exact ih (k + 1) τ4  H locs ls (by omega) hw (lv_sub hl [1, 2, 3, 4, 0] rfl) V' S' (by rw [← hstepv]; exact hV) (by rw [← hstep]; exact hS)
      · refine lv_iload hx hb dX3_crustIn_57 (lv_at hl 4 rfl) ?_
        have hq1 : f_X3_crustV q x y (n + 1) k τ = nI k := by
          subst eτ4; simp only [f_X3_crustV, if_neg c5]
        have hq2 : f_X3_crustS q x y (n + 1) k τ = τ4 := by
          subst eτ4; simp only [f_X3_crustS, if_neg c5]
        exact se_i hx hb hr hlocks hw (by rw [← hq1]; exact hV) (by rw [← hq2]; exact hS) dX3_crustIn_59
  subst eτ1; exact loop 60 1 _  _ _ _ (by decide) hw (lv_sub hl [1, 2, 3, 4, 0] rfl) _ _ rfl rfl
theorem mX3_tideOn_0 : (Cond.fieldLink RX3 10 "SaltRow" "row" "LSaltRow$Row;") ∈ wsX3_tideOn := by decide +kernel
theorem iX3_tideOn_X3 : ∀ w ∈ wsX30, w ∈ wsX3_tideOn := by decide +kernel
theorem mX3_tideOn_2 : (Cond.fieldLink RX3 37 "SaltRow$Row" "day" "I") ∈ wsX3_tideOn := by decide +kernel
theorem iX3_tideOn_X2 : ∀ w ∈ wsX20, w ∈ wsX3_tideOn := by decide +kernel
set_option maxHeartbeats 4000000 in
set_option maxRecDepth 100000 in
theorem zX3_tideOn (l : Launch) (D : va_G) (a : Nat → Nat) (cs : Nat → ClassId) (σ : sS) (x h : Int32) (hx0 : ¬ x < 0) (hx20 : x ≤ 20) : sMi l yX3_tideOn wsX3_tideOn ({ frames := 2, cells := 0, slots := 0, locals := 45 }) D a cs [.ref (a 0), .int x, .int h] σ (f_X3_tideOn σ x h) σ := by
  intro sz
  refine Met.ofW (cc := cX3_tideOn) (maxL := 5) (ret := (some .int)) (by decide) rfl ?_
  intro p e s m args below meth c s₁ B hml hv
  obtain ⟨rfl, hsz, hv2⟩ := hv
  have hv3 : sB D a cs σ sz s := ⟨hsz, hv2⟩
  subst hsz
  have hw := sH_start hv3
  obtain ⟨-, -, hK, -, hN⟩ := hv3
  have hx := B.exec
  have hb := B.bytes
  have hr := B.returns
  have hts := atoms_spec (ws := wsX3_tideOn) B.pre
  have hown : s.vm.findClass RX3 = some m.cls := findClass_of_methodNamed B.named
  have hlocks := B.notSynchronized
  have hA : ∀ q : Nat, s.heap.size ≤ q → sA a s.heap.size q := sA_new
  have hl := lv_entry ([.ref (a 0), .int x, .int h]) (n := 5) (Nat.le_of_ble_eq_true rfl)
  rw [lg_entry_eq]
  generalize (lg_sl ([.ref (a 0), .int x, .int h]) ++ List.replicate (5 - (lg_sl ([.ref (a 0), .int x, .int h])).length) Slot.unset).toArray = ls at hl ⊢
  have hl : lv_has ls 5 [(0, .ref (a 0)), (1, .int x), (2, .int h)] := hl
  refine lv_iload_n hx hb dX3_tideOn_0 rfl (lv_at hl 1 rfl) ?_
  refine lv_if_lt (tgt := 10) hx hb dX3_tideOn_1 (by decide) (fun c1 => absurd c1 hx0) (fun c1 => ?_)
  refine lv_iload_n hx hb dX3_tideOn_4 rfl (lv_at hl 1 rfl) ?_
  refine lv_bipush (v := 20) hx hb dX3_tideOn_5 (by decide) ?_
  refine lv_icmp_le (tgt := 21) hx hb dX3_tideOn_7 (by decide) (fun c2 => ?_) (fun c2 => absurd hx20 c2)
  refine lv_iconst (v := 0) hx hb dX3_tideOn_21 (by decide) ?_
  refine lv_istore_n (lv' := [(3, .int 0), (0, .ref (a 0)), (1, .int x), (2, .int h)]) hx hb dX3_tideOn_22 rfl hl (by decide) rfl (fun ls hl => ?_)
  have loop : ∀ (n : Nat) (k : Nat) (τ : sS)  (H : Heap) (locs : List Loc) (ls : Array Slot), k + n = 14 → sH D a cs (sA a s.heap.size) s.heap τ H locs → lv_has ls 5 [(0, .ref (a 0)), (1, .int x), (2, .int h), (3, .int (nI k))] → ∀ (V' : Int32) (S' : sS), f_X3_tideV x h n k τ = V' → τ = S' → W p l e { frames := 2, cells := 0, slots := 0, locals := 45 } s m #[Value.ref (a 0), Value.int x, Value.int h] below meth c H locs 0 0 (MQ below (va_Qi (fun r (_ : Unit) => r = V') (fun _ t => va_P D vwCl (sW a cs S') t.heap) (sA a s.heap.size)) #[Value.ref (a 0), Value.int x, Value.int h] s 0 0 (sA a s.heap.size)) (F0 m 23 ls []) := by
    intro n
    induction n with
    | zero =>
      intro k τ  H locs ls hkn hw hl V' S' hV hS
      refine lv_iload_n hx hb dX3_tideOn_23 rfl (lv_at hl 3 rfl) ?_
      refine lv_bipush (v := 14) hx hb dX3_tideOn_24 (by decide) ?_
      refine lv_icmp_ge (tgt := 78) hx hb dX3_tideOn_26 (by decide) (fun c3 => ?_) (fun c3 => absurd (by rw [show k = 14 by omega]; decide) c3)
      refine lv_iconst (v := -1) hx hb dX3_tideOn_78 (by decide) ?_
      exact se_i hx hb hr hlocks hw (by exact hV) (by exact hS) dX3_tideOn_79
    | succ n ih =>
      intro k τ  H locs ls hkn hw hl V' S' hV hS
      refine lv_iload_n hx hb dX3_tideOn_23 rfl (lv_at hl 3 rfl) ?_
      refine lv_bipush (v := 14) hx hb dX3_tideOn_24 (by decide) ?_
      refine lv_icmp_ge (tgt := 78) hx hb dX3_tideOn_26 (by decide) (fun c4 => absurd c4 (nI_ge (a := k) (b := 14) (by omega) (by decide))) (fun c4 => ?_)
      refine lv_aload_n hx hb dX3_tideOn_29 rfl (lv_at hl 0 rfl) ?_
      refine sg_oq hx hb hts iX3_tideOn_X3 hown hK hw 0 (Or.inl ⟨rfl, rfl⟩) (hts _ mX3_tideOn_0) dX3_tideOn_30 ?_
      refine sg_r (r := 0) hx hb hts iX3_tideOn_X2 hown hK hw (by omega) 1 (by decide) (hts _ mX3_tideOn_2) dX3_tideOn_33 ?_
      refine lv_iload_n hx hb dX3_tideOn_36 rfl (lv_at hl 3 rfl) ?_
      refine lv_iadd hx hb dX3_tideOn_37 ?_
      refine sc_i (sr_S (As := [.int ((τ (1 + 0) 1) + (nI k))]) (rest := []) ⟨hx, hb, hml, hown, hts⟩ (zX3_tideAt l D a cs _ ((τ (1 + 0) 1) + (nI k)) _) (va_cwS 1 hts gX3_tideOn_X3_tideAt rfl rfl rfl (by decide +kernel) ⟨Nat.le_of_ble_eq_true rfl, Nat.le_of_ble_eq_true rfl⟩) hK hN hw rfl hl.1 (Nat.le_of_ble_eq_true rfl) dX3_tideOn_38 ⟨Nat.le_of_ble_eq_true rfl, Nat.le_of_ble_eq_true rfl⟩) hw hA (fun H locs hw => ?_)
      refine lv_istore (lv' := [(4, .int (f_X3_tideAt ((τ (1 + 0) 1) + (nI k)))), (0, .ref (a 0)), (1, .int x), (2, .int h), (3, .int (nI k))]) hx hb dX3_tideOn_41 hl (by decide) rfl (fun ls hl => ?_)
      refine lv_iload_n hx hb dX3_tideOn_43 rfl (lv_at hl 3 rfl) ?_
      refine lv_if_eq (tgt := 56) hx hb dX3_tideOn_44 (by decide) (fun c5 => ?_) (fun c5 => ?_)
      · refine lv_iload hx hb dX3_tideOn_56 (lv_at hl 0 rfl) ?_
        refine lv_iload_n hx hb dX3_tideOn_58 rfl (lv_at hl 2 rfl) ?_
        refine lv_icmp_gt (tgt := 72) hx hb dX3_tideOn_59 (by decide) (fun c6 => ?_) (fun c6 => ?_)
        · refine lv_iinc (v := nI (k + 1)) (lv' := [(3, .int (nI (k + 1))), (4, .int (f_X3_tideAt ((τ (1 + 0) 1) + (nI k)))), (0, .ref (a 0)), (1, .int x), (2, .int h)]) hx hb dX3_tideOn_72 hl (k := 4) rfl (nI_1 k) (by decide) rfl (fun ls hl => ?_)
          refine lv_goto (tgt := 23) hx hb dX3_tideOn_75 (by decide) ?_
          have hstep : τ = τ := by
            rfl
          have hstepv : f_X3_tideV x h (n + 1) k τ = f_X3_tideV x h n (k + 1) τ := by
            simp only [f_X3_tideV, if_pos c5, if_pos c6]
          exact ih (k + 1) τ  H locs ls (by omega) hw (lv_sub hl [2, 3, 4, 0] rfl) V' S' (by rw [← hstepv]; exact hV) (by rw [← hstep]; exact hS)
        · refine lv_aload_n hx hb dX3_tideOn_62 rfl (lv_at hl 1 rfl) ?_
          refine sg_oq hx hb hts iX3_tideOn_X3 hown hK hw 0 (Or.inl ⟨rfl, rfl⟩) (hts _ mX3_tideOn_0) dX3_tideOn_63 ?_
          refine sg_r (r := 0) hx hb hts iX3_tideOn_X2 hown hK hw (by omega) 1 (by decide) (hts _ mX3_tideOn_2) dX3_tideOn_66 ?_
          refine lv_iload_n hx hb dX3_tideOn_69 rfl (lv_at hl 4 rfl) ?_
          refine lv_iadd hx hb dX3_tideOn_70 ?_
          have hq1 : f_X3_tideV x h (n + 1) k τ = (τ (1 + 0) 1) + (nI k) := by
            simp only [f_X3_tideV, if_pos c5, if_neg c6]
          have hq2 : τ = τ := by
            rfl
          exact se_i hx hb hr hlocks hw (by rw [← hq1]; exact hV) (by rw [← hq2]; exact hS) dX3_tideOn_71
      · refine lv_iload hx hb dX3_tideOn_47 (lv_at hl 0 rfl) ?_
        refine lv_iload_n hx hb dX3_tideOn_49 rfl (lv_at hl 2 rfl) ?_
        refine lv_icmp_lt (tgt := 72) hx hb dX3_tideOn_50 (by decide) (fun c7 => ?_) (fun c7 => ?_)
        · refine lv_iinc (v := nI (k + 1)) (lv' := [(3, .int (nI (k + 1))), (4, .int (f_X3_tideAt ((τ (1 + 0) 1) + (nI k)))), (0, .ref (a 0)), (1, .int x), (2, .int h)]) hx hb dX3_tideOn_72 hl (k := 4) rfl (nI_1 k) (by decide) rfl (fun ls hl => ?_)
          refine lv_goto (tgt := 23) hx hb dX3_tideOn_75 (by decide) ?_
          have hstep : τ = τ := by
            rfl
          have hstepv : f_X3_tideV x h (n + 1) k τ = f_X3_tideV x h n (k + 1) τ := by
            simp only [f_X3_tideV, if_neg c5, if_pos c7]
          exact ih (k + 1) τ  H locs ls (by omega) hw (lv_sub hl [2, 3, 4, 0] rfl) V' S' (by rw [← hstepv]; exact hV) (by rw [← hstep]; exact hS)
        · refine lv_goto (tgt := 62) hx hb dX3_tideOn_53 (by decide) ?_
          refine lv_aload_n hx hb dX3_tideOn_62 rfl (lv_at hl 1 rfl) ?_
          refine sg_oq hx hb hts iX3_tideOn_X3 hown hK hw 0 (Or.inl ⟨rfl, rfl⟩) (hts _ mX3_tideOn_0) dX3_tideOn_63 ?_
          refine sg_r (r := 0) hx hb hts iX3_tideOn_X2 hown hK hw (by omega) 1 (by decide) (hts _ mX3_tideOn_2) dX3_tideOn_66 ?_
          refine lv_iload_n hx hb dX3_tideOn_69 rfl (lv_at hl 4 rfl) ?_
          refine lv_iadd hx hb dX3_tideOn_70 ?_
          have hq1 : f_X3_tideV x h (n + 1) k τ = (τ (1 + 0) 1) + (nI k) := by
            simp only [f_X3_tideV, if_neg c5, if_neg c7]
          have hq2 : τ = τ := by
            rfl
          exact se_i hx hb hr hlocks hw (by rw [← hq1]; exact hV) (by rw [← hq2]; exact hS) dX3_tideOn_71
  exact loop 14 0 σ  _ _ _ (by decide) hw (lv_sub hl [1, 2, 3, 0] rfl) _ _ rfl rfl
