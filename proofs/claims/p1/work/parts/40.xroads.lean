set_option maxHeartbeats 4000000 in
set_option maxRecDepth 100000 in
theorem zX3_area_x1 (l : Launch) (hst : l.stackTraces = false) (D : va_G) (a : Nat → Nat) (cs : Nat → ClassId) (σ : sS) (x0 : Int32) (hp : x0 < 0 ∨ ¬ x0 < 0 ∧ ¬ x0 < 8) (y : Int32) : sMx l yX3_area wsX3_area ({ frames := 7, cells := 1, slots := 6, locals := 105 }) D a cs [.ref (a 0), .int x0, .int y] σ xIO := by
  intro sz
  refine vx_ofW (cc := cX3_area) (maxL := 4) (ret := (some .int)) (by decide) rfl ?_
  intro p e s m args below meth c s₁ B hml hnx hv
  obtain ⟨rfl, ⟨hsz, hv2⟩, hX⟩ := hv
  have hv3 : sB D a cs σ sz s := ⟨hsz, hv2⟩
  subst hsz
  have hw := sH_start hv3
  obtain ⟨-, -, hK, -, hN⟩ := hv3
  have hx := B.exec
  have hb := B.bytes
  have hts := atoms_spec (ws := wsX3_area) B.pre
  have hown : s.vm.findClass RX3 = some m.cls := findClass_of_methodNamed B.named
  have hlocks := B.notSynchronized
  have hA : ∀ q : Nat, s.heap.size ≤ q → sA a s.heap.size q := sA_new
  have hl := lv_entry ([.ref (a 0), .int x0, .int y]) (n := 4) (Nat.le_of_ble_eq_true rfl)
  rw [lg_entry_eq]
  generalize (lg_sl ([.ref (a 0), .int x0, .int y]) ++ List.replicate (4 - (lg_sl ([.ref (a 0), .int x0, .int y])).length) Slot.unset).toArray = ls at hl ⊢
  have hl : lv_has ls 4 [(0, .ref (a 0)), (1, .int x0), (2, .int y)] := hl
  refine lv_aload_n hx hb dX3_area_0 rfl (lv_at hl 0 rfl) ?_
  refine lv_iload_n hx hb dX3_area_1 rfl (lv_at hl 1 rfl) ?_
  exact sx_pass (As := [.int x0]) (rest := []) ⟨hx, hb, hml, hown, hts⟩ (zX3_needPond_x l hst D a cs _ x0 hp) (cwV 1 hts gX3_area_X3_needPond rfl rfl rfl (by decide +kernel) ⟨Nat.le_of_ble_eq_true rfl, Nat.le_of_ble_eq_true rfl⟩) hK hN hX hw rfl hl.1 (Nat.le_of_ble_eq_true rfl) dX3_area_2 ⟨Nat.le_of_ble_eq_true rfl, Nat.le_of_ble_eq_true rfl⟩ hnx hlocks (Nat.le_refl _) (Nat.le_refl _)
theorem mX3_area_0_x2 : (Cond.classLink RX3 30 xIA) ∈ wsX3_area := by decide +kernel
theorem mX3_area_1_x2 : (Cond.initialized xIA) ∈ wsX3_area := by decide +kernel
theorem gX3_area_x2_x : ∀ w ∈ (vx_atS RX3 34 xIA xNm).filter goodWord, w ∈ wsX3_area := by decide +kernel
set_option maxHeartbeats 4000000 in
set_option maxRecDepth 100000 in
theorem zX3_area_x2 (l : Launch) (hst : l.stackTraces = false) (D : va_G) (a : Nat → Nat) (cs : Nat → ClassId) (σ : sS) (k : Nat) (hk : k < 8) (y : Int32) (h1 : y < 1) : sMx l yX3_area wsX3_area ({ frames := 6, cells := 1, slots := 6, locals := 84 }) D a cs [.ref (a 0), .int (nI k), .int y] σ xIA := by
  intro sz
  refine vx_ofW (cc := cX3_area) (maxL := 4) (ret := (some .int)) (by decide) rfl ?_
  intro p e s m args below meth c s₁ B hml hnx hv
  obtain ⟨rfl, ⟨hsz, hv2⟩, hX⟩ := hv
  have hv3 : sB D a cs σ sz s := ⟨hsz, hv2⟩
  subst hsz
  have hw := sH_start hv3
  obtain ⟨-, -, hK, -, hN⟩ := hv3
  have hx := B.exec
  have hb := B.bytes
  have hts := atoms_spec (ws := wsX3_area) B.pre
  have hown : s.vm.findClass RX3 = some m.cls := findClass_of_methodNamed B.named
  have hlocks := B.notSynchronized
  have hA : ∀ q : Nat, s.heap.size ≤ q → sA a s.heap.size q := sA_new
  have hl := lv_entry ([.ref (a 0), .int (nI k), .int y]) (n := 4) (Nat.le_of_ble_eq_true rfl)
  rw [lg_entry_eq]
  generalize (lg_sl ([.ref (a 0), .int (nI k), .int y]) ++ List.replicate (4 - (lg_sl ([.ref (a 0), .int (nI k), .int y])).length) Slot.unset).toArray = ls at hl ⊢
  have hl : lv_has ls 4 [(0, .ref (a 0)), (1, .int (nI k)), (2, .int y)] := hl
  refine lv_aload_n hx hb dX3_area_0 rfl (lv_at hl 0 rfl) ?_
  refine lv_iload_n hx hb dX3_area_1 rfl (lv_at hl 1 rfl) ?_
  refine sc_v (sr_V (i := 0) (As := [.int (nI k)]) (rest := []) ⟨hx, hb, hml, hown, hts⟩ (zX3_needPond l D a cs _ k (by omega) _) (cwV 1 hts gX3_area_X3_needPond rfl rfl rfl (by decide +kernel) ⟨Nat.le_of_ble_eq_true rfl, Nat.le_of_ble_eq_true rfl⟩) hK hN hw (by omega) sE_o kcX3 rfl hl.1 (Nat.le_of_ble_eq_true rfl) dX3_area_2 ⟨Nat.le_of_ble_eq_true rfl, Nat.le_of_ble_eq_true rfl⟩) hw hA (fun H locs hw => ?_)
  refine lv_iload_n hx hb dX3_area_5 rfl (lv_at hl 2 rfl) ?_
  refine lv_iconst (v := 1) hx hb dX3_area_6 (by decide) ?_
  refine lv_icmp_lt (tgt := 16) hx hb dX3_area_7 (by decide) (fun c1 => ?_) (fun c1 => absurd h1 c1)
  exact sx_throwS (cls := xIA) (text := "area is not 1 to 9") (ik := 30) (is := 32) (ic := 34) (rest := []) hx hb hst hown (by decide +kernel) hts mX3_area_0_x2 mX3_area_1_x2 (by decide +kernel) gX3_area_x2_x sXB_IA sX_okIA hX hw (hl.1.trans hml.symm) dX3_area_16 dX3_area_19 dX3_area_20 dX3_area_22 dX3_area_25 hnx (Nat.le_of_ble_eq_true rfl) (Nat.le_of_ble_eq_true rfl) (Nat.le_of_ble_eq_true rfl) (Nat.le_of_ble_eq_true rfl) hlocks (Nat.le_refl _) (Nat.le_refl _)
theorem mX3_area_0_x3 : (Cond.classLink RX3 30 xIA) ∈ wsX3_area := by decide +kernel
theorem mX3_area_1_x3 : (Cond.initialized xIA) ∈ wsX3_area := by decide +kernel
theorem gX3_area_x3_x : ∀ w ∈ (vx_atS RX3 34 xIA xNm).filter goodWord, w ∈ wsX3_area := by decide +kernel
set_option maxHeartbeats 4000000 in
set_option maxRecDepth 100000 in
theorem zX3_area_x3 (l : Launch) (hst : l.stackTraces = false) (D : va_G) (a : Nat → Nat) (cs : Nat → ClassId) (σ : sS) (k : Nat) (hk : k < 8) (y : Int32) (h1 : ¬ y < 1) (h2 : ¬ y ≤ 9) : sMx l yX3_area wsX3_area ({ frames := 6, cells := 1, slots := 6, locals := 84 }) D a cs [.ref (a 0), .int (nI k), .int y] σ xIA := by
  intro sz
  refine vx_ofW (cc := cX3_area) (maxL := 4) (ret := (some .int)) (by decide) rfl ?_
  intro p e s m args below meth c s₁ B hml hnx hv
  obtain ⟨rfl, ⟨hsz, hv2⟩, hX⟩ := hv
  have hv3 : sB D a cs σ sz s := ⟨hsz, hv2⟩
  subst hsz
  have hw := sH_start hv3
  obtain ⟨-, -, hK, -, hN⟩ := hv3
  have hx := B.exec
  have hb := B.bytes
  have hts := atoms_spec (ws := wsX3_area) B.pre
  have hown : s.vm.findClass RX3 = some m.cls := findClass_of_methodNamed B.named
  have hlocks := B.notSynchronized
  have hA : ∀ q : Nat, s.heap.size ≤ q → sA a s.heap.size q := sA_new
  have hl := lv_entry ([.ref (a 0), .int (nI k), .int y]) (n := 4) (Nat.le_of_ble_eq_true rfl)
  rw [lg_entry_eq]
  generalize (lg_sl ([.ref (a 0), .int (nI k), .int y]) ++ List.replicate (4 - (lg_sl ([.ref (a 0), .int (nI k), .int y])).length) Slot.unset).toArray = ls at hl ⊢
  have hl : lv_has ls 4 [(0, .ref (a 0)), (1, .int (nI k)), (2, .int y)] := hl
  refine lv_aload_n hx hb dX3_area_0 rfl (lv_at hl 0 rfl) ?_
  refine lv_iload_n hx hb dX3_area_1 rfl (lv_at hl 1 rfl) ?_
  refine sc_v (sr_V (i := 0) (As := [.int (nI k)]) (rest := []) ⟨hx, hb, hml, hown, hts⟩ (zX3_needPond l D a cs _ k (by omega) _) (cwV 1 hts gX3_area_X3_needPond rfl rfl rfl (by decide +kernel) ⟨Nat.le_of_ble_eq_true rfl, Nat.le_of_ble_eq_true rfl⟩) hK hN hw (by omega) sE_o kcX3 rfl hl.1 (Nat.le_of_ble_eq_true rfl) dX3_area_2 ⟨Nat.le_of_ble_eq_true rfl, Nat.le_of_ble_eq_true rfl⟩) hw hA (fun H locs hw => ?_)
  refine lv_iload_n hx hb dX3_area_5 rfl (lv_at hl 2 rfl) ?_
  refine lv_iconst (v := 1) hx hb dX3_area_6 (by decide) ?_
  refine lv_icmp_lt (tgt := 16) hx hb dX3_area_7 (by decide) (fun c1 => absurd c1 h1) (fun c1 => ?_)
  refine lv_iload_n hx hb dX3_area_10 rfl (lv_at hl 2 rfl) ?_
  refine lv_bipush (v := 9) hx hb dX3_area_11 (by decide) ?_
  refine lv_icmp_le (tgt := 26) hx hb dX3_area_13 (by decide) (fun c2 => absurd c2 h2) (fun c2 => ?_)
  exact sx_throwS (cls := xIA) (text := "area is not 1 to 9") (ik := 30) (is := 32) (ic := 34) (rest := []) hx hb hst hown (by decide +kernel) hts mX3_area_0_x3 mX3_area_1_x3 (by decide +kernel) gX3_area_x3_x sXB_IA sX_okIA hX hw (hl.1.trans hml.symm) dX3_area_16 dX3_area_19 dX3_area_20 dX3_area_22 dX3_area_25 hnx (Nat.le_of_ble_eq_true rfl) (Nat.le_of_ble_eq_true rfl) (Nat.le_of_ble_eq_true rfl) (Nat.le_of_ble_eq_true rfl) hlocks (Nat.le_refl _) (Nat.le_refl _)
set_option maxHeartbeats 4000000 in
set_option maxRecDepth 100000 in
theorem zX3_gate_x1 (l : Launch) (hst : l.stackTraces = false) (D : va_G) (a : Nat → Nat) (cs : Nat → ClassId) (σ : sS) (x0 : Int32) (hp : x0 < 0 ∨ ¬ x0 < 0 ∧ ¬ x0 < 8) (y : Int32) : sMx l yX3_gate wsX3_gate ({ frames := 7, cells := 1, slots := 6, locals := 105 }) D a cs [.ref (a 0), .int x0, .int y] σ xIO := by
  intro sz
  refine vx_ofW (cc := cX3_gate) (maxL := 4) (ret := (some .boolean)) (by decide) rfl ?_
  intro p e s m args below meth c s₁ B hml hnx hv
  obtain ⟨rfl, ⟨hsz, hv2⟩, hX⟩ := hv
  have hv3 : sB D a cs σ sz s := ⟨hsz, hv2⟩
  subst hsz
  have hw := sH_start hv3
  obtain ⟨-, -, hK, -, hN⟩ := hv3
  have hx := B.exec
  have hb := B.bytes
  have hts := atoms_spec (ws := wsX3_gate) B.pre
  have hown : s.vm.findClass RX3 = some m.cls := findClass_of_methodNamed B.named
  have hlocks := B.notSynchronized
  have hA : ∀ q : Nat, s.heap.size ≤ q → sA a s.heap.size q := sA_new
  have hl := lv_entry ([.ref (a 0), .int x0, .int y]) (n := 4) (Nat.le_of_ble_eq_true rfl)
  rw [lg_entry_eq]
  generalize (lg_sl ([.ref (a 0), .int x0, .int y]) ++ List.replicate (4 - (lg_sl ([.ref (a 0), .int x0, .int y])).length) Slot.unset).toArray = ls at hl ⊢
  have hl : lv_has ls 4 [(0, .ref (a 0)), (1, .int x0), (2, .int y)] := hl
  refine lv_aload_n hx hb dX3_gate_0 rfl (lv_at hl 0 rfl) ?_
  refine lv_iload_n hx hb dX3_gate_1 rfl (lv_at hl 1 rfl) ?_
  exact sx_pass (As := [.int x0]) (rest := []) ⟨hx, hb, hml, hown, hts⟩ (zX3_needPond_x l hst D a cs _ x0 hp) (cwV 1 hts gX3_gate_X3_needPond rfl rfl rfl (by decide +kernel) ⟨Nat.le_of_ble_eq_true rfl, Nat.le_of_ble_eq_true rfl⟩) hK hN hX hw rfl hl.1 (Nat.le_of_ble_eq_true rfl) dX3_gate_2 ⟨Nat.le_of_ble_eq_true rfl, Nat.le_of_ble_eq_true rfl⟩ hnx hlocks (Nat.le_refl _) (Nat.le_refl _)
set_option maxHeartbeats 4000000 in
set_option maxRecDepth 100000 in
theorem zX3_cover_x1 (l : Launch) (hst : l.stackTraces = false) (D : va_G) (a : Nat → Nat) (cs : Nat → ClassId) (σ : sS) (x0 : Int32) (hp : x0 < 5 ∨ ¬ x0 < 5 ∧ ¬ x0 < 8) (y : Int32) : sMx l yX3_cover wsX3_cover ({ frames := 7, cells := 1, slots := 6, locals := 105 }) D a cs [.ref (a 0), .int x0, .int y] σ xIO := by
  intro sz
  refine vx_ofW (cc := cX3_cover) (maxL := 4) (ret := (some .boolean)) (by decide) rfl ?_
  intro p e s m args below meth c s₁ B hml hnx hv
  obtain ⟨rfl, ⟨hsz, hv2⟩, hX⟩ := hv
  have hv3 : sB D a cs σ sz s := ⟨hsz, hv2⟩
  subst hsz
  have hw := sH_start hv3
  obtain ⟨-, -, hK, -, hN⟩ := hv3
  have hx := B.exec
  have hb := B.bytes
  have hts := atoms_spec (ws := wsX3_cover) B.pre
  have hown : s.vm.findClass RX3 = some m.cls := findClass_of_methodNamed B.named
  have hlocks := B.notSynchronized
  have hA : ∀ q : Nat, s.heap.size ≤ q → sA a s.heap.size q := sA_new
  have hl := lv_entry ([.ref (a 0), .int x0, .int y]) (n := 4) (Nat.le_of_ble_eq_true rfl)
  rw [lg_entry_eq]
  generalize (lg_sl ([.ref (a 0), .int x0, .int y]) ++ List.replicate (4 - (lg_sl ([.ref (a 0), .int x0, .int y])).length) Slot.unset).toArray = ls at hl ⊢
  have hl : lv_has ls 4 [(0, .ref (a 0)), (1, .int x0), (2, .int y)] := hl
  refine lv_aload_n hx hb dX3_cover_0 rfl (lv_at hl 0 rfl) ?_
  refine lv_iload_n hx hb dX3_cover_1 rfl (lv_at hl 1 rfl) ?_
  exact sx_pass (As := [.int x0]) (rest := []) ⟨hx, hb, hml, hown, hts⟩ (zX3_needPan_x l hst D a cs _ x0 hp) (cwV 1 hts gX3_cover_X3_needPan rfl rfl rfl (by decide +kernel) ⟨Nat.le_of_ble_eq_true rfl, Nat.le_of_ble_eq_true rfl⟩) hK hN hX hw rfl hl.1 (Nat.le_of_ble_eq_true rfl) dX3_cover_2 ⟨Nat.le_of_ble_eq_true rfl, Nat.le_of_ble_eq_true rfl⟩ hnx hlocks (Nat.le_refl _) (Nat.le_refl _)
theorem mX3_pass_0_x1 : (Cond.classLink RX3 30 xIA) ∈ wsX3_pass := by decide +kernel
theorem mX3_pass_1_x1 : (Cond.initialized xIA) ∈ wsX3_pass := by decide +kernel
theorem gX3_pass_x1_x : ∀ w ∈ (vx_atS RX3 34 xIA xNm).filter goodWord, w ∈ wsX3_pass := by decide +kernel
set_option maxHeartbeats 4000000 in
set_option maxRecDepth 100000 in
theorem zX3_pass_x1 (l : Launch) (hst : l.stackTraces = false) (D : va_G) (a : Nat → Nat) (cs : Nat → ClassId) (σ : sS) (n x y z : Int32) (h1 : n < 1) : sMx l yX3_pass wsX3_pass ({ frames := 6, cells := 1, slots := 6, locals := 84 }) D a cs [.ref (a 0), .int n, .int x, .int y, .int z] σ xIA := by
  intro sz
  refine vx_ofW (cc := cX3_pass) (maxL := 7) (ret := (some .int)) (by decide) rfl ?_
  intro p e s m args below meth c s₁ B hml hnx hv
  obtain ⟨rfl, ⟨hsz, hv2⟩, hX⟩ := hv
  have hv3 : sB D a cs σ sz s := ⟨hsz, hv2⟩
  subst hsz
  have hw := sH_start hv3
  obtain ⟨-, -, hK, -, hN⟩ := hv3
  have hx := B.exec
  have hb := B.bytes
  have hts := atoms_spec (ws := wsX3_pass) B.pre
  have hown : s.vm.findClass RX3 = some m.cls := findClass_of_methodNamed B.named
  have hlocks := B.notSynchronized
  have hA : ∀ q : Nat, s.heap.size ≤ q → sA a s.heap.size q := sA_new
  have hl := lv_entry ([.ref (a 0), .int n, .int x, .int y, .int z]) (n := 7) (Nat.le_of_ble_eq_true rfl)
  rw [lg_entry_eq]
  generalize (lg_sl ([.ref (a 0), .int n, .int x, .int y, .int z]) ++ List.replicate (7 - (lg_sl ([.ref (a 0), .int n, .int x, .int y, .int z])).length) Slot.unset).toArray = ls at hl ⊢
  have hl : lv_has ls 7 [(0, .ref (a 0)), (1, .int n), (2, .int x), (3, .int y), (4, .int z)] := hl
  refine lv_iload_n hx hb dX3_pass_0 rfl (lv_at hl 1 rfl) ?_
  refine lv_iconst (v := 1) hx hb dX3_pass_1 (by decide) ?_
  refine lv_icmp_lt (tgt := 11) hx hb dX3_pass_2 (by decide) (fun c1 => ?_) (fun c1 => absurd h1 c1)
  exact sx_throwS (cls := xIA) (text := "days is not 1 to 30") (ik := 30) (is := 65) (ic := 34) (rest := []) hx hb hst hown (by decide +kernel) hts mX3_pass_0_x1 mX3_pass_1_x1 (by decide +kernel) gX3_pass_x1_x sXB_IA sX_okIA hX hw (hl.1.trans hml.symm) dX3_pass_11 dX3_pass_14 dX3_pass_15 dX3_pass_17 dX3_pass_20 hnx (Nat.le_of_ble_eq_true rfl) (Nat.le_of_ble_eq_true rfl) (Nat.le_of_ble_eq_true rfl) (Nat.le_of_ble_eq_true rfl) hlocks (Nat.le_refl _) (Nat.le_refl _)
theorem mX3_pass_0_x2 : (Cond.classLink RX3 30 xIA) ∈ wsX3_pass := by decide +kernel
theorem mX3_pass_1_x2 : (Cond.initialized xIA) ∈ wsX3_pass := by decide +kernel
theorem gX3_pass_x2_x : ∀ w ∈ (vx_atS RX3 34 xIA xNm).filter goodWord, w ∈ wsX3_pass := by decide +kernel
set_option maxHeartbeats 4000000 in
set_option maxRecDepth 100000 in
theorem zX3_pass_x2 (l : Launch) (hst : l.stackTraces = false) (D : va_G) (a : Nat → Nat) (cs : Nat → ClassId) (σ : sS) (n x y z : Int32) (h1 : ¬ n < 1) (h2 : ¬ n ≤ 30) : sMx l yX3_pass wsX3_pass ({ frames := 6, cells := 1, slots := 6, locals := 84 }) D a cs [.ref (a 0), .int n, .int x, .int y, .int z] σ xIA := by
  intro sz
  refine vx_ofW (cc := cX3_pass) (maxL := 7) (ret := (some .int)) (by decide) rfl ?_
  intro p e s m args below meth c s₁ B hml hnx hv
  obtain ⟨rfl, ⟨hsz, hv2⟩, hX⟩ := hv
  have hv3 : sB D a cs σ sz s := ⟨hsz, hv2⟩
  subst hsz
  have hw := sH_start hv3
  obtain ⟨-, -, hK, -, hN⟩ := hv3
  have hx := B.exec
  have hb := B.bytes
  have hts := atoms_spec (ws := wsX3_pass) B.pre
  have hown : s.vm.findClass RX3 = some m.cls := findClass_of_methodNamed B.named
  have hlocks := B.notSynchronized
  have hA : ∀ q : Nat, s.heap.size ≤ q → sA a s.heap.size q := sA_new
  have hl := lv_entry ([.ref (a 0), .int n, .int x, .int y, .int z]) (n := 7) (Nat.le_of_ble_eq_true rfl)
  rw [lg_entry_eq]
  generalize (lg_sl ([.ref (a 0), .int n, .int x, .int y, .int z]) ++ List.replicate (7 - (lg_sl ([.ref (a 0), .int n, .int x, .int y, .int z])).length) Slot.unset).toArray = ls at hl ⊢
  have hl : lv_has ls 7 [(0, .ref (a 0)), (1, .int n), (2, .int x), (3, .int y), (4, .int z)] := hl
  refine lv_iload_n hx hb dX3_pass_0 rfl (lv_at hl 1 rfl) ?_
  refine lv_iconst (v := 1) hx hb dX3_pass_1 (by decide) ?_
  refine lv_icmp_lt (tgt := 11) hx hb dX3_pass_2 (by decide) (fun c1 => absurd c1 h1) (fun c1 => ?_)
  refine lv_iload_n hx hb dX3_pass_5 rfl (lv_at hl 1 rfl) ?_
  refine lv_bipush (v := 30) hx hb dX3_pass_6 (by decide) ?_
  refine lv_icmp_le (tgt := 21) hx hb dX3_pass_8 (by decide) (fun c2 => absurd c2 h2) (fun c2 => ?_)
  exact sx_throwS (cls := xIA) (text := "days is not 1 to 30") (ik := 30) (is := 65) (ic := 34) (rest := []) hx hb hst hown (by decide +kernel) hts mX3_pass_0_x2 mX3_pass_1_x2 (by decide +kernel) gX3_pass_x2_x sXB_IA sX_okIA hX hw (hl.1.trans hml.symm) dX3_pass_11 dX3_pass_14 dX3_pass_15 dX3_pass_17 dX3_pass_20 hnx (Nat.le_of_ble_eq_true rfl) (Nat.le_of_ble_eq_true rfl) (Nat.le_of_ble_eq_true rfl) (Nat.le_of_ble_eq_true rfl) hlocks (Nat.le_refl _) (Nat.le_refl _)
set_option maxHeartbeats 4000000 in
set_option maxRecDepth 100000 in
theorem zX3_pass_x3 (l : Launch) (hst : l.stackTraces = false) (D : va_G) (a : Nat → Nat) (cs : Nat → ClassId) (σ : sS) (n z : Int32) (h1 : ¬ n < 1) (h2 : n ≤ 30) (x y : Int32) (hp : x < 0 ∨ ¬ x < 0 ∧ ¬ x ≤ 9 ∨ ¬ x < 0 ∧ x ≤ 9 ∧ y < 0 ∨ ¬ x < 0 ∧ x ≤ 9 ∧ ¬ y < 0 ∧ ¬ y ≤ 9)  : sMx l yX3_pass wsX3_pass ({ frames := 7, cells := 1, slots := 6, locals := 106 }) D a cs [.ref (a 0), .int n, .int x, .int y, .int z] σ xIA := by
  intro sz
  refine vx_ofW (cc := cX3_pass) (maxL := 7) (ret := (some .int)) (by decide) rfl ?_
  intro p e s m args below meth c s₁ B hml hnx hv
  obtain ⟨rfl, ⟨hsz, hv2⟩, hX⟩ := hv
  have hv3 : sB D a cs σ sz s := ⟨hsz, hv2⟩
  subst hsz
  have hw := sH_start hv3
  obtain ⟨-, -, hK, -, hN⟩ := hv3
  have hx := B.exec
  have hb := B.bytes
  have hts := atoms_spec (ws := wsX3_pass) B.pre
  have hown : s.vm.findClass RX3 = some m.cls := findClass_of_methodNamed B.named
  have hlocks := B.notSynchronized
  have hA : ∀ q : Nat, s.heap.size ≤ q → sA a s.heap.size q := sA_new
  have hl := lv_entry ([.ref (a 0), .int n, .int x, .int y, .int z]) (n := 7) (Nat.le_of_ble_eq_true rfl)
  rw [lg_entry_eq]
  generalize (lg_sl ([.ref (a 0), .int n, .int x, .int y, .int z]) ++ List.replicate (7 - (lg_sl ([.ref (a 0), .int n, .int x, .int y, .int z])).length) Slot.unset).toArray = ls at hl ⊢
  have hl : lv_has ls 7 [(0, .ref (a 0)), (1, .int n), (2, .int x), (3, .int y), (4, .int z)] := hl
  refine lv_iload_n hx hb dX3_pass_0 rfl (lv_at hl 1 rfl) ?_
  refine lv_iconst (v := 1) hx hb dX3_pass_1 (by decide) ?_
  refine lv_icmp_lt (tgt := 11) hx hb dX3_pass_2 (by decide) (fun c1 => absurd c1 h1) (fun c1 => ?_)
  refine lv_iload_n hx hb dX3_pass_5 rfl (lv_at hl 1 rfl) ?_
  refine lv_bipush (v := 30) hx hb dX3_pass_6 (by decide) ?_
  refine lv_icmp_le (tgt := 21) hx hb dX3_pass_8 (by decide) (fun c2 => ?_) (fun c2 => absurd h2 c2)
  refine lv_aload_n hx hb dX3_pass_21 rfl (lv_at hl 0 rfl) ?_
  refine lv_iload_n hx hb dX3_pass_22 rfl (lv_at hl 2 rfl) ?_
  refine lv_iload_n hx hb dX3_pass_23 rfl (lv_at hl 3 rfl) ?_
  exact sx_pass (As := [.int x, .int y]) (rest := []) ⟨hx, hb, hml, hown, hts⟩ (zX3_needWeather_x l hst D a cs _ x y hp) (cwV 2 hts gX3_pass_X3_needWeather rfl rfl rfl (by decide +kernel) ⟨Nat.le_of_ble_eq_true rfl, Nat.le_of_ble_eq_true rfl⟩) hK hN hX hw rfl hl.1 (Nat.le_of_ble_eq_true rfl) dX3_pass_24 ⟨Nat.le_of_ble_eq_true rfl, Nat.le_of_ble_eq_true rfl⟩ hnx hlocks (Nat.le_refl _) (Nat.le_refl _)
theorem mX3_pass_0_x4 : (Cond.classLink RX3 30 xIA) ∈ wsX3_pass := by decide +kernel
theorem mX3_pass_1_x4 : (Cond.initialized xIA) ∈ wsX3_pass := by decide +kernel
theorem gX3_pass_x4_x : ∀ w ∈ (vx_atS RX3 34 xIA xNm).filter goodWord, w ∈ wsX3_pass := by decide +kernel
set_option maxHeartbeats 4000000 in
set_option maxRecDepth 100000 in
theorem zX3_pass_x4 (l : Launch) (hst : l.stackTraces = false) (D : va_G) (a : Nat → Nat) (cs : Nat → ClassId) (σ : sS) (n x y z : Int32) (h1 : ¬ n < 1) (h2 : n ≤ 30) (hx0 : ¬ x < 0) (hx9 : x ≤ 9) (hy0 : ¬ y < 0) (hy9 : y ≤ 9) (h3 : z < 0) : sMx l yX3_pass wsX3_pass ({ frames := 6, cells := 1, slots := 6, locals := 84 }) D a cs [.ref (a 0), .int n, .int x, .int y, .int z] σ xIA := by
  intro sz
  refine vx_ofW (cc := cX3_pass) (maxL := 7) (ret := (some .int)) (by decide) rfl ?_
  intro p e s m args below meth c s₁ B hml hnx hv
  obtain ⟨rfl, ⟨hsz, hv2⟩, hX⟩ := hv
  have hv3 : sB D a cs σ sz s := ⟨hsz, hv2⟩
  subst hsz
  have hw := sH_start hv3
  obtain ⟨-, -, hK, -, hN⟩ := hv3
  have hx := B.exec
  have hb := B.bytes
  have hts := atoms_spec (ws := wsX3_pass) B.pre
  have hown : s.vm.findClass RX3 = some m.cls := findClass_of_methodNamed B.named
  have hlocks := B.notSynchronized
  have hA : ∀ q : Nat, s.heap.size ≤ q → sA a s.heap.size q := sA_new
  have hl := lv_entry ([.ref (a 0), .int n, .int x, .int y, .int z]) (n := 7) (Nat.le_of_ble_eq_true rfl)
  rw [lg_entry_eq]
  generalize (lg_sl ([.ref (a 0), .int n, .int x, .int y, .int z]) ++ List.replicate (7 - (lg_sl ([.ref (a 0), .int n, .int x, .int y, .int z])).length) Slot.unset).toArray = ls at hl ⊢
  have hl : lv_has ls 7 [(0, .ref (a 0)), (1, .int n), (2, .int x), (3, .int y), (4, .int z)] := hl
  refine lv_iload_n hx hb dX3_pass_0 rfl (lv_at hl 1 rfl) ?_
  refine lv_iconst (v := 1) hx hb dX3_pass_1 (by decide) ?_
  refine lv_icmp_lt (tgt := 11) hx hb dX3_pass_2 (by decide) (fun c1 => absurd c1 h1) (fun c1 => ?_)
  refine lv_iload_n hx hb dX3_pass_5 rfl (lv_at hl 1 rfl) ?_
  refine lv_bipush (v := 30) hx hb dX3_pass_6 (by decide) ?_
  refine lv_icmp_le (tgt := 21) hx hb dX3_pass_8 (by decide) (fun c2 => ?_) (fun c2 => absurd h2 c2)
  refine lv_aload_n hx hb dX3_pass_21 rfl (lv_at hl 0 rfl) ?_
  refine lv_iload_n hx hb dX3_pass_22 rfl (lv_at hl 2 rfl) ?_
  refine lv_iload_n hx hb dX3_pass_23 rfl (lv_at hl 3 rfl) ?_
  refine sc_v (sr_V (i := 0) (As := [.int x, .int y]) (rest := []) ⟨hx, hb, hml, hown, hts⟩ (zX3_needWeather l D a cs _ x y hx0 hx9 hy0 hy9 _) (cwV 2 hts gX3_pass_X3_needWeather rfl rfl rfl (by decide +kernel) ⟨Nat.le_of_ble_eq_true rfl, Nat.le_of_ble_eq_true rfl⟩) hK hN hw (by omega) sE_o kcX3 rfl hl.1 (Nat.le_of_ble_eq_true rfl) dX3_pass_24 ⟨Nat.le_of_ble_eq_true rfl, Nat.le_of_ble_eq_true rfl⟩) hw hA (fun H locs hw => ?_)
  refine lv_iload hx hb dX3_pass_27 (lv_at hl 4 rfl) ?_
  refine lv_if_lt (tgt := 39) hx hb dX3_pass_29 (by decide) (fun c3 => ?_) (fun c3 => absurd h3 c3)
  exact sx_throwS (cls := xIA) (text := "rain is not 0 to 40") (ik := 30) (is := 71) (ic := 34) (rest := []) hx hb hst hown (by decide +kernel) hts mX3_pass_0_x4 mX3_pass_1_x4 (by decide +kernel) gX3_pass_x4_x sXB_IA sX_okIA hX hw (hl.1.trans hml.symm) dX3_pass_39 dX3_pass_42 dX3_pass_43 dX3_pass_45 dX3_pass_48 hnx (Nat.le_of_ble_eq_true rfl) (Nat.le_of_ble_eq_true rfl) (Nat.le_of_ble_eq_true rfl) (Nat.le_of_ble_eq_true rfl) hlocks (Nat.le_refl _) (Nat.le_refl _)
theorem mX3_pass_0_x5 : (Cond.classLink RX3 30 xIA) ∈ wsX3_pass := by decide +kernel
theorem mX3_pass_1_x5 : (Cond.initialized xIA) ∈ wsX3_pass := by decide +kernel
theorem gX3_pass_x5_x : ∀ w ∈ (vx_atS RX3 34 xIA xNm).filter goodWord, w ∈ wsX3_pass := by decide +kernel
set_option maxHeartbeats 4000000 in
set_option maxRecDepth 100000 in
theorem zX3_pass_x5 (l : Launch) (hst : l.stackTraces = false) (D : va_G) (a : Nat → Nat) (cs : Nat → ClassId) (σ : sS) (n x y z : Int32) (h1 : ¬ n < 1) (h2 : n ≤ 30) (hx0 : ¬ x < 0) (hx9 : x ≤ 9) (hy0 : ¬ y < 0) (hy9 : y ≤ 9) (h3 : ¬ z < 0) (h4 : ¬ z ≤ 40) : sMx l yX3_pass wsX3_pass ({ frames := 6, cells := 1, slots := 6, locals := 84 }) D a cs [.ref (a 0), .int n, .int x, .int y, .int z] σ xIA := by
  intro sz
  refine vx_ofW (cc := cX3_pass) (maxL := 7) (ret := (some .int)) (by decide) rfl ?_
  intro p e s m args below meth c s₁ B hml hnx hv
  obtain ⟨rfl, ⟨hsz, hv2⟩, hX⟩ := hv
  have hv3 : sB D a cs σ sz s := ⟨hsz, hv2⟩
  subst hsz
  have hw := sH_start hv3
  obtain ⟨-, -, hK, -, hN⟩ := hv3
  have hx := B.exec
  have hb := B.bytes
  have hts := atoms_spec (ws := wsX3_pass) B.pre
  have hown : s.vm.findClass RX3 = some m.cls := findClass_of_methodNamed B.named
  have hlocks := B.notSynchronized
  have hA : ∀ q : Nat, s.heap.size ≤ q → sA a s.heap.size q := sA_new
  have hl := lv_entry ([.ref (a 0), .int n, .int x, .int y, .int z]) (n := 7) (Nat.le_of_ble_eq_true rfl)
  rw [lg_entry_eq]
  generalize (lg_sl ([.ref (a 0), .int n, .int x, .int y, .int z]) ++ List.replicate (7 - (lg_sl ([.ref (a 0), .int n, .int x, .int y, .int z])).length) Slot.unset).toArray = ls at hl ⊢
  have hl : lv_has ls 7 [(0, .ref (a 0)), (1, .int n), (2, .int x), (3, .int y), (4, .int z)] := hl
  refine lv_iload_n hx hb dX3_pass_0 rfl (lv_at hl 1 rfl) ?_
  refine lv_iconst (v := 1) hx hb dX3_pass_1 (by decide) ?_
  refine lv_icmp_lt (tgt := 11) hx hb dX3_pass_2 (by decide) (fun c1 => absurd c1 h1) (fun c1 => ?_)
  refine lv_iload_n hx hb dX3_pass_5 rfl (lv_at hl 1 rfl) ?_
  refine lv_bipush (v := 30) hx hb dX3_pass_6 (by decide) ?_
  refine lv_icmp_le (tgt := 21) hx hb dX3_pass_8 (by decide) (fun c2 => ?_) (fun c2 => absurd h2 c2)
  refine lv_aload_n hx hb dX3_pass_21 rfl (lv_at hl 0 rfl) ?_
  refine lv_iload_n hx hb dX3_pass_22 rfl (lv_at hl 2 rfl) ?_
  refine lv_iload_n hx hb dX3_pass_23 rfl (lv_at hl 3 rfl) ?_
  refine sc_v (sr_V (i := 0) (As := [.int x, .int y]) (rest := []) ⟨hx, hb, hml, hown, hts⟩ (zX3_needWeather l D a cs _ x y hx0 hx9 hy0 hy9 _) (cwV 2 hts gX3_pass_X3_needWeather rfl rfl rfl (by decide +kernel) ⟨Nat.le_of_ble_eq_true rfl, Nat.le_of_ble_eq_true rfl⟩) hK hN hw (by omega) sE_o kcX3 rfl hl.1 (Nat.le_of_ble_eq_true rfl) dX3_pass_24 ⟨Nat.le_of_ble_eq_true rfl, Nat.le_of_ble_eq_true rfl⟩) hw hA (fun H locs hw => ?_)
  refine lv_iload hx hb dX3_pass_27 (lv_at hl 4 rfl) ?_
  refine lv_if_lt (tgt := 39) hx hb dX3_pass_29 (by decide) (fun c3 => absurd c3 h3) (fun c3 => ?_)
  refine lv_iload hx hb dX3_pass_32 (lv_at hl 4 rfl) ?_
  refine lv_bipush (v := 40) hx hb dX3_pass_34 (by decide) ?_
  refine lv_icmp_le (tgt := 49) hx hb dX3_pass_36 (by decide) (fun c4 => absurd c4 h4) (fun c4 => ?_)
  exact sx_throwS (cls := xIA) (text := "rain is not 0 to 40") (ik := 30) (is := 71) (ic := 34) (rest := []) hx hb hst hown (by decide +kernel) hts mX3_pass_0_x5 mX3_pass_1_x5 (by decide +kernel) gX3_pass_x5_x sXB_IA sX_okIA hX hw (hl.1.trans hml.symm) dX3_pass_39 dX3_pass_42 dX3_pass_43 dX3_pass_45 dX3_pass_48 hnx (Nat.le_of_ble_eq_true rfl) (Nat.le_of_ble_eq_true rfl) (Nat.le_of_ble_eq_true rfl) (Nat.le_of_ble_eq_true rfl) hlocks (Nat.le_refl _) (Nat.le_refl _)
set_option maxHeartbeats 4000000 in
set_option maxRecDepth 100000 in
theorem zX3_skim_x1 (l : Launch) (hst : l.stackTraces = false) (D : va_G) (a : Nat → Nat) (cs : Nat → ClassId) (σ : sS) (x0 : Int32) (hp : x0 < 0 ∨ ¬ x0 < 0 ∧ ¬ x0 < 8)  : sMx l yX3_skim wsX3_skim ({ frames := 7, cells := 1, slots := 6, locals := 105 }) D a cs [.ref (a 0), .int x0] σ xIO := by
  intro sz
  refine vx_ofW (cc := cX3_skim) (maxL := 3) (ret := (some .int)) (by decide) rfl ?_
  intro p e s m args below meth c s₁ B hml hnx hv
  obtain ⟨rfl, ⟨hsz, hv2⟩, hX⟩ := hv
  have hv3 : sB D a cs σ sz s := ⟨hsz, hv2⟩
  subst hsz
  have hw := sH_start hv3
  obtain ⟨-, -, hK, -, hN⟩ := hv3
  have hx := B.exec
  have hb := B.bytes
  have hts := atoms_spec (ws := wsX3_skim) B.pre
  have hown : s.vm.findClass RX3 = some m.cls := findClass_of_methodNamed B.named
  have hlocks := B.notSynchronized
  have hA : ∀ q : Nat, s.heap.size ≤ q → sA a s.heap.size q := sA_new
  have hl := lv_entry ([.ref (a 0), .int x0]) (n := 3) (Nat.le_of_ble_eq_true rfl)
  rw [lg_entry_eq]
  generalize (lg_sl ([.ref (a 0), .int x0]) ++ List.replicate (3 - (lg_sl ([.ref (a 0), .int x0])).length) Slot.unset).toArray = ls at hl ⊢
  have hl : lv_has ls 3 [(0, .ref (a 0)), (1, .int x0)] := hl
  refine lv_aload_n hx hb dX3_skim_0 rfl (lv_at hl 0 rfl) ?_
  refine lv_iload_n hx hb dX3_skim_1 rfl (lv_at hl 1 rfl) ?_
  exact sx_pass (As := [.int x0]) (rest := []) ⟨hx, hb, hml, hown, hts⟩ (zX3_needPond_x l hst D a cs _ x0 hp) (cwV 1 hts gX3_skim_X3_needPond rfl rfl rfl (by decide +kernel) ⟨Nat.le_of_ble_eq_true rfl, Nat.le_of_ble_eq_true rfl⟩) hK hN hX hw rfl hl.1 (Nat.le_of_ble_eq_true rfl) dX3_skim_2 ⟨Nat.le_of_ble_eq_true rfl, Nat.le_of_ble_eq_true rfl⟩ hnx hlocks (Nat.le_refl _) (Nat.le_refl _)
set_option maxHeartbeats 4000000 in
set_option maxRecDepth 100000 in
theorem zX3_drain_x1 (l : Launch) (hst : l.stackTraces = false) (D : va_G) (a : Nat → Nat) (cs : Nat → ClassId) (σ : sS) (x0 : Int32) (hp : x0 < 0 ∨ ¬ x0 < 0 ∧ ¬ x0 < 8)  : sMx l yX3_drain wsX3_drain ({ frames := 7, cells := 1, slots := 6, locals := 105 }) D a cs [.ref (a 0), .int x0] σ xIO := by
  intro sz
  refine vx_ofW (cc := cX3_drain) (maxL := 3) (ret := (some .int)) (by decide) rfl ?_
  intro p e s m args below meth c s₁ B hml hnx hv
  obtain ⟨rfl, ⟨hsz, hv2⟩, hX⟩ := hv
  have hv3 : sB D a cs σ sz s := ⟨hsz, hv2⟩
  subst hsz
  have hw := sH_start hv3
  obtain ⟨-, -, hK, -, hN⟩ := hv3
  have hx := B.exec
  have hb := B.bytes
  have hts := atoms_spec (ws := wsX3_drain) B.pre
  have hown : s.vm.findClass RX3 = some m.cls := findClass_of_methodNamed B.named
  have hlocks := B.notSynchronized
  have hA : ∀ q : Nat, s.heap.size ≤ q → sA a s.heap.size q := sA_new
  have hl := lv_entry ([.ref (a 0), .int x0]) (n := 3) (Nat.le_of_ble_eq_true rfl)
  rw [lg_entry_eq]
  generalize (lg_sl ([.ref (a 0), .int x0]) ++ List.replicate (3 - (lg_sl ([.ref (a 0), .int x0])).length) Slot.unset).toArray = ls at hl ⊢
  have hl : lv_has ls 3 [(0, .ref (a 0)), (1, .int x0)] := hl
  refine lv_aload_n hx hb dX3_drain_0 rfl (lv_at hl 0 rfl) ?_
  refine lv_iload_n hx hb dX3_drain_1 rfl (lv_at hl 1 rfl) ?_
  exact sx_pass (As := [.int x0]) (rest := []) ⟨hx, hb, hml, hown, hts⟩ (zX3_needPond_x l hst D a cs _ x0 hp) (cwV 1 hts gX3_drain_X3_needPond rfl rfl rfl (by decide +kernel) ⟨Nat.le_of_ble_eq_true rfl, Nat.le_of_ble_eq_true rfl⟩) hK hN hX hw rfl hl.1 (Nat.le_of_ble_eq_true rfl) dX3_drain_2 ⟨Nat.le_of_ble_eq_true rfl, Nat.le_of_ble_eq_true rfl⟩ hnx hlocks (Nat.le_refl _) (Nat.le_refl _)
theorem mX3_drain_0_x2 : (Cond.fieldLink RX3 10 "SaltRow" "row" "LSaltRow$Row;") ∈ wsX3_drain := by decide +kernel
theorem iX3_drain_X3_x2 : ∀ w ∈ wsX30, w ∈ wsX3_drain := by decide +kernel
theorem mX3_drain_2_x2 : (Cond.fieldLink RX3 46 "SaltRow$Row" "ponds" "[LSaltRow$Pond;") ∈ wsX3_drain := by decide +kernel
theorem iX3_drain_X2_x2 : ∀ w ∈ wsX20, w ∈ wsX3_drain := by decide +kernel
theorem mX3_drain_4_x2 : (Cond.fieldLink RX3 89 "SaltRow$Pond" "brine" "I") ∈ wsX3_drain := by decide +kernel
theorem iX3_drain_X1_x2 : ∀ w ∈ wsX10, w ∈ wsX3_drain := by decide +kernel
theorem mX3_drain_6_x2 : (Cond.classLink RX3 41 xIS) ∈ wsX3_drain := by decide +kernel
theorem mX3_drain_7_x2 : (Cond.initialized xIS) ∈ wsX3_drain := by decide +kernel
theorem gX3_drain_x2_x : ∀ w ∈ (vx_atS RX3 45 xIS xNm).filter goodWord, w ∈ wsX3_drain := by decide +kernel
set_option maxHeartbeats 4000000 in
set_option maxRecDepth 100000 in
theorem zX3_drain_x2 (l : Launch) (hst : l.stackTraces = false) (D : va_G) (a : Nat → Nat) (cs : Nat → ClassId) (σ : sS) (k : Nat) (hk : k < 8) (h1 : ¬ 1 ≤ σ (5 + 8 * 0 + k) 1) : sMx l yX3_drain wsX3_drain ({ frames := 6, cells := 1, slots := 6, locals := 84 }) D a cs [.ref (a 0), .int (nI k)] σ xIS := by
  intro sz
  refine vx_ofW (cc := cX3_drain) (maxL := 3) (ret := (some .int)) (by decide) rfl ?_
  intro p e s m args below meth c s₁ B hml hnx hv
  obtain ⟨rfl, ⟨hsz, hv2⟩, hX⟩ := hv
  have hv3 : sB D a cs σ sz s := ⟨hsz, hv2⟩
  subst hsz
  have hw := sH_start hv3
  obtain ⟨-, -, hK, -, hN⟩ := hv3
  have hx := B.exec
  have hb := B.bytes
  have hts := atoms_spec (ws := wsX3_drain) B.pre
  have hown : s.vm.findClass RX3 = some m.cls := findClass_of_methodNamed B.named
  have hlocks := B.notSynchronized
  have hA : ∀ q : Nat, s.heap.size ≤ q → sA a s.heap.size q := sA_new
  have hl := lv_entry ([.ref (a 0), .int (nI k)]) (n := 3) (Nat.le_of_ble_eq_true rfl)
  rw [lg_entry_eq]
  generalize (lg_sl ([.ref (a 0), .int (nI k)]) ++ List.replicate (3 - (lg_sl ([.ref (a 0), .int (nI k)])).length) Slot.unset).toArray = ls at hl ⊢
  have hl : lv_has ls 3 [(0, .ref (a 0)), (1, .int (nI k))] := hl
  refine lv_aload_n hx hb dX3_drain_0 rfl (lv_at hl 0 rfl) ?_
  refine lv_iload_n hx hb dX3_drain_1 rfl (lv_at hl 1 rfl) ?_
  refine sc_v (sr_V (i := 0) (As := [.int (nI k)]) (rest := []) ⟨hx, hb, hml, hown, hts⟩ (zX3_needPond l D a cs _ k (by omega) _) (cwV 1 hts gX3_drain_X3_needPond rfl rfl rfl (by decide +kernel) ⟨Nat.le_of_ble_eq_true rfl, Nat.le_of_ble_eq_true rfl⟩) hK hN hw (by omega) sE_o kcX3 rfl hl.1 (Nat.le_of_ble_eq_true rfl) dX3_drain_2 ⟨Nat.le_of_ble_eq_true rfl, Nat.le_of_ble_eq_true rfl⟩) hw hA (fun H locs hw => ?_)
  refine lv_aload_n hx hb dX3_drain_5 rfl (lv_at hl 0 rfl) ?_
  refine sg_oq hx hb hts iX3_drain_X3_x2 hown hK hw 0 (Or.inl ⟨rfl, rfl⟩) (hts _ mX3_drain_0_x2) dX3_drain_6 ?_
  refine sg_rq (r := 0) hx hb hts iX3_drain_X2_x2 hown hK hw (by omega) (hts _ mX3_drain_2_x2) dX3_drain_9 ?_
  refine lv_iload_n hx hb dX3_drain_12 rfl (lv_at hl 1 rfl) ?_
  refine sg_q (r := 0) (k := k) hx hb hK hw (by omega) (by omega) rfl dX3_drain_13 ?_
  refine sg_p hx hb hts iX3_drain_X1_x2 hown hK hw (by omega) 1 (by decide) (hts _ mX3_drain_4_x2) dX3_drain_14 ?_
  refine lv_iconst (v := 1) hx hb dX3_drain_17 (by decide) ?_
  refine lv_icmp_ge (tgt := 31) hx hb dX3_drain_18 (by decide) (fun c1 => absurd c1 h1) (fun c1 => ?_)
  exact sx_throwS (cls := xIS) (text := "the POND has no BRINE") (ik := 41) (is := 92) (ic := 45) (rest := []) hx hb hst hown (by decide +kernel) hts mX3_drain_6_x2 mX3_drain_7_x2 (by decide +kernel) gX3_drain_x2_x sXB_IS sX_okIS hX hw (hl.1.trans hml.symm) dX3_drain_21 dX3_drain_24 dX3_drain_25 dX3_drain_27 dX3_drain_30 hnx (Nat.le_of_ble_eq_true rfl) (Nat.le_of_ble_eq_true rfl) (Nat.le_of_ble_eq_true rfl) (Nat.le_of_ble_eq_true rfl) hlocks (Nat.le_refl _) (Nat.le_refl _)
set_option maxHeartbeats 4000000 in
set_option maxRecDepth 100000 in
theorem zX3_pump_x1 (l : Launch) (hst : l.stackTraces = false) (D : va_G) (a : Nat → Nat) (cs : Nat → ClassId) (σ : sS) (x0 : Int32) (hp : x0 < 0 ∨ ¬ x0 < 0 ∧ ¬ x0 < 8) (y z : Int32) : sMx l yX3_pump wsX3_pump ({ frames := 7, cells := 1, slots := 6, locals := 105 }) D a cs [.ref (a 0), .int x0, .int y, .int z] σ xIO := by
  intro sz
  refine vx_ofW (cc := cX3_pump) (maxL := 4) (ret := (some .int)) (by decide) rfl ?_
  intro p e s m args below meth c s₁ B hml hnx hv
  obtain ⟨rfl, ⟨hsz, hv2⟩, hX⟩ := hv
  have hv3 : sB D a cs σ sz s := ⟨hsz, hv2⟩
  subst hsz
  have hw := sH_start hv3
  obtain ⟨-, -, hK, -, hN⟩ := hv3
  have hx := B.exec
  have hb := B.bytes
  have hts := atoms_spec (ws := wsX3_pump) B.pre
  have hown : s.vm.findClass RX3 = some m.cls := findClass_of_methodNamed B.named
  have hlocks := B.notSynchronized
  have hA : ∀ q : Nat, s.heap.size ≤ q → sA a s.heap.size q := sA_new
  have hl := lv_entry ([.ref (a 0), .int x0, .int y, .int z]) (n := 4) (Nat.le_of_ble_eq_true rfl)
  rw [lg_entry_eq]
  generalize (lg_sl ([.ref (a 0), .int x0, .int y, .int z]) ++ List.replicate (4 - (lg_sl ([.ref (a 0), .int x0, .int y, .int z])).length) Slot.unset).toArray = ls at hl ⊢
  have hl : lv_has ls 4 [(0, .ref (a 0)), (1, .int x0), (2, .int y), (3, .int z)] := hl
  refine lv_aload_n hx hb dX3_pump_0 rfl (lv_at hl 0 rfl) ?_
  refine lv_iload_n hx hb dX3_pump_1 rfl (lv_at hl 1 rfl) ?_
  exact sx_pass (As := [.int x0]) (rest := []) ⟨hx, hb, hml, hown, hts⟩ (zX3_needPond_x l hst D a cs _ x0 hp) (cwV 1 hts gX3_pump_X3_needPond rfl rfl rfl (by decide +kernel) ⟨Nat.le_of_ble_eq_true rfl, Nat.le_of_ble_eq_true rfl⟩) hK hN hX hw rfl hl.1 (Nat.le_of_ble_eq_true rfl) dX3_pump_2 ⟨Nat.le_of_ble_eq_true rfl, Nat.le_of_ble_eq_true rfl⟩ hnx hlocks (Nat.le_refl _) (Nat.le_refl _)
set_option maxHeartbeats 4000000 in
set_option maxRecDepth 100000 in
theorem zX3_pump_x2 (l : Launch) (hst : l.stackTraces = false) (D : va_G) (a : Nat → Nat) (cs : Nat → ClassId) (σ : sS) (k : Nat) (hk : k < 8) (x0 : Int32) (hp : x0 < 0 ∨ ¬ x0 < 0 ∧ ¬ x0 < 8) (z : Int32) : sMx l yX3_pump wsX3_pump ({ frames := 7, cells := 1, slots := 6, locals := 105 }) D a cs [.ref (a 0), .int (nI k), .int x0, .int z] σ xIO := by
  intro sz
  refine vx_ofW (cc := cX3_pump) (maxL := 4) (ret := (some .int)) (by decide) rfl ?_
  intro p e s m args below meth c s₁ B hml hnx hv
  obtain ⟨rfl, ⟨hsz, hv2⟩, hX⟩ := hv
  have hv3 : sB D a cs σ sz s := ⟨hsz, hv2⟩
  subst hsz
  have hw := sH_start hv3
  obtain ⟨-, -, hK, -, hN⟩ := hv3
  have hx := B.exec
  have hb := B.bytes
  have hts := atoms_spec (ws := wsX3_pump) B.pre
  have hown : s.vm.findClass RX3 = some m.cls := findClass_of_methodNamed B.named
  have hlocks := B.notSynchronized
  have hA : ∀ q : Nat, s.heap.size ≤ q → sA a s.heap.size q := sA_new
  have hl := lv_entry ([.ref (a 0), .int (nI k), .int x0, .int z]) (n := 4) (Nat.le_of_ble_eq_true rfl)
  rw [lg_entry_eq]
  generalize (lg_sl ([.ref (a 0), .int (nI k), .int x0, .int z]) ++ List.replicate (4 - (lg_sl ([.ref (a 0), .int (nI k), .int x0, .int z])).length) Slot.unset).toArray = ls at hl ⊢
  have hl : lv_has ls 4 [(0, .ref (a 0)), (1, .int (nI k)), (2, .int x0), (3, .int z)] := hl
  refine lv_aload_n hx hb dX3_pump_0 rfl (lv_at hl 0 rfl) ?_
  refine lv_iload_n hx hb dX3_pump_1 rfl (lv_at hl 1 rfl) ?_
  refine sc_v (sr_V (i := 0) (As := [.int (nI k)]) (rest := []) ⟨hx, hb, hml, hown, hts⟩ (zX3_needPond l D a cs _ k (by omega) _) (cwV 1 hts gX3_pump_X3_needPond rfl rfl rfl (by decide +kernel) ⟨Nat.le_of_ble_eq_true rfl, Nat.le_of_ble_eq_true rfl⟩) hK hN hw (by omega) sE_o kcX3 rfl hl.1 (Nat.le_of_ble_eq_true rfl) dX3_pump_2 ⟨Nat.le_of_ble_eq_true rfl, Nat.le_of_ble_eq_true rfl⟩) hw hA (fun H locs hw => ?_)
  refine lv_aload_n hx hb dX3_pump_5 rfl (lv_at hl 0 rfl) ?_
  refine lv_iload_n hx hb dX3_pump_6 rfl (lv_at hl 2 rfl) ?_
  exact sx_pass (As := [.int x0]) (rest := []) ⟨hx, hb, hml, hown, hts⟩ (zX3_needPond_x l hst D a cs _ x0 hp) (cwV 1 hts gX3_pump_X3_needPond rfl rfl rfl (by decide +kernel) ⟨Nat.le_of_ble_eq_true rfl, Nat.le_of_ble_eq_true rfl⟩) hK hN hX hw rfl hl.1 (Nat.le_of_ble_eq_true rfl) dX3_pump_7 ⟨Nat.le_of_ble_eq_true rfl, Nat.le_of_ble_eq_true rfl⟩ hnx hlocks (Nat.le_refl _) (Nat.le_refl _)
theorem mX3_pump_0_x3 : (Cond.classLink RX3 30 xIA) ∈ wsX3_pump := by decide +kernel
theorem mX3_pump_1_x3 : (Cond.initialized xIA) ∈ wsX3_pump := by decide +kernel
theorem gX3_pump_x3_x : ∀ w ∈ (vx_atS RX3 34 xIA xNm).filter goodWord, w ∈ wsX3_pump := by decide +kernel
set_option maxHeartbeats 4000000 in
set_option maxRecDepth 100000 in
theorem zX3_pump_x3 (l : Launch) (hst : l.stackTraces = false) (D : va_G) (a : Nat → Nat) (cs : Nat → ClassId) (σ : sS) (k j : Nat) (hk : k < 8) (hj : j < 8) (z : Int32) (h1 : nI k = nI j) : sMx l yX3_pump wsX3_pump ({ frames := 6, cells := 1, slots := 6, locals := 84 }) D a cs [.ref (a 0), .int (nI k), .int (nI j), .int z] σ xIA := by
  intro sz
  refine vx_ofW (cc := cX3_pump) (maxL := 4) (ret := (some .int)) (by decide) rfl ?_
  intro p e s m args below meth c s₁ B hml hnx hv
  obtain ⟨rfl, ⟨hsz, hv2⟩, hX⟩ := hv
  have hv3 : sB D a cs σ sz s := ⟨hsz, hv2⟩
  subst hsz
  have hw := sH_start hv3
  obtain ⟨-, -, hK, -, hN⟩ := hv3
  have hx := B.exec
  have hb := B.bytes
  have hts := atoms_spec (ws := wsX3_pump) B.pre
  have hown : s.vm.findClass RX3 = some m.cls := findClass_of_methodNamed B.named
  have hlocks := B.notSynchronized
  have hA : ∀ q : Nat, s.heap.size ≤ q → sA a s.heap.size q := sA_new
  have hl := lv_entry ([.ref (a 0), .int (nI k), .int (nI j), .int z]) (n := 4) (Nat.le_of_ble_eq_true rfl)
  rw [lg_entry_eq]
  generalize (lg_sl ([.ref (a 0), .int (nI k), .int (nI j), .int z]) ++ List.replicate (4 - (lg_sl ([.ref (a 0), .int (nI k), .int (nI j), .int z])).length) Slot.unset).toArray = ls at hl ⊢
  have hl : lv_has ls 4 [(0, .ref (a 0)), (1, .int (nI k)), (2, .int (nI j)), (3, .int z)] := hl
  refine lv_aload_n hx hb dX3_pump_0 rfl (lv_at hl 0 rfl) ?_
  refine lv_iload_n hx hb dX3_pump_1 rfl (lv_at hl 1 rfl) ?_
  refine sc_v (sr_V (i := 0) (As := [.int (nI k)]) (rest := []) ⟨hx, hb, hml, hown, hts⟩ (zX3_needPond l D a cs _ k (by omega) _) (cwV 1 hts gX3_pump_X3_needPond rfl rfl rfl (by decide +kernel) ⟨Nat.le_of_ble_eq_true rfl, Nat.le_of_ble_eq_true rfl⟩) hK hN hw (by omega) sE_o kcX3 rfl hl.1 (Nat.le_of_ble_eq_true rfl) dX3_pump_2 ⟨Nat.le_of_ble_eq_true rfl, Nat.le_of_ble_eq_true rfl⟩) hw hA (fun H locs hw => ?_)
  refine lv_aload_n hx hb dX3_pump_5 rfl (lv_at hl 0 rfl) ?_
  refine lv_iload_n hx hb dX3_pump_6 rfl (lv_at hl 2 rfl) ?_
  refine sc_v (sr_V (i := 0) (As := [.int (nI j)]) (rest := []) ⟨hx, hb, hml, hown, hts⟩ (zX3_needPond l D a cs _ j (by omega) _) (cwV 1 hts gX3_pump_X3_needPond rfl rfl rfl (by decide +kernel) ⟨Nat.le_of_ble_eq_true rfl, Nat.le_of_ble_eq_true rfl⟩) hK hN hw (by omega) sE_o kcX3 rfl hl.1 (Nat.le_of_ble_eq_true rfl) dX3_pump_7 ⟨Nat.le_of_ble_eq_true rfl, Nat.le_of_ble_eq_true rfl⟩) hw hA (fun H locs hw => ?_)
  refine lv_iload_n hx hb dX3_pump_10 rfl (lv_at hl 1 rfl) ?_
  refine lv_iload_n hx hb dX3_pump_11 rfl (lv_at hl 2 rfl) ?_
  refine lv_icmp_ne (tgt := 25) hx hb dX3_pump_12 (by decide) (fun c1 => absurd h1 c1) (fun c1 => ?_)
  exact sx_throwS (cls := xIA) (text := "both PONDS are the same") (ik := 30) (is := 109) (ic := 34) (rest := []) hx hb hst hown (by decide +kernel) hts mX3_pump_0_x3 mX3_pump_1_x3 (by decide +kernel) gX3_pump_x3_x sXB_IA sX_okIA hX hw (hl.1.trans hml.symm) dX3_pump_15 dX3_pump_18 dX3_pump_19 dX3_pump_21 dX3_pump_24 hnx (Nat.le_of_ble_eq_true rfl) (Nat.le_of_ble_eq_true rfl) (Nat.le_of_ble_eq_true rfl) (Nat.le_of_ble_eq_true rfl) hlocks (Nat.le_refl _) (Nat.le_refl _)
theorem mX3_pump_0_x4 : (Cond.classLink RX3 30 xIA) ∈ wsX3_pump := by decide +kernel
theorem mX3_pump_1_x4 : (Cond.initialized xIA) ∈ wsX3_pump := by decide +kernel
theorem gX3_pump_x4_x : ∀ w ∈ (vx_atS RX3 34 xIA xNm).filter goodWord, w ∈ wsX3_pump := by decide +kernel
set_option maxHeartbeats 4000000 in
set_option maxRecDepth 100000 in
theorem zX3_pump_x4 (l : Launch) (hst : l.stackTraces = false) (D : va_G) (a : Nat → Nat) (cs : Nat → ClassId) (σ : sS) (k j : Nat) (hk : k < 8) (hj : j < 8) (z : Int32) (h1 : ¬ nI k = nI j) (h2 : ¬ 1 ≤ z) : sMx l yX3_pump wsX3_pump ({ frames := 6, cells := 1, slots := 6, locals := 84 }) D a cs [.ref (a 0), .int (nI k), .int (nI j), .int z] σ xIA := by
  intro sz
  refine vx_ofW (cc := cX3_pump) (maxL := 4) (ret := (some .int)) (by decide) rfl ?_
  intro p e s m args below meth c s₁ B hml hnx hv
  obtain ⟨rfl, ⟨hsz, hv2⟩, hX⟩ := hv
  have hv3 : sB D a cs σ sz s := ⟨hsz, hv2⟩
  subst hsz
  have hw := sH_start hv3
  obtain ⟨-, -, hK, -, hN⟩ := hv3
  have hx := B.exec
  have hb := B.bytes
  have hts := atoms_spec (ws := wsX3_pump) B.pre
  have hown : s.vm.findClass RX3 = some m.cls := findClass_of_methodNamed B.named
  have hlocks := B.notSynchronized
  have hA : ∀ q : Nat, s.heap.size ≤ q → sA a s.heap.size q := sA_new
  have hl := lv_entry ([.ref (a 0), .int (nI k), .int (nI j), .int z]) (n := 4) (Nat.le_of_ble_eq_true rfl)
  rw [lg_entry_eq]
  generalize (lg_sl ([.ref (a 0), .int (nI k), .int (nI j), .int z]) ++ List.replicate (4 - (lg_sl ([.ref (a 0), .int (nI k), .int (nI j), .int z])).length) Slot.unset).toArray = ls at hl ⊢
  have hl : lv_has ls 4 [(0, .ref (a 0)), (1, .int (nI k)), (2, .int (nI j)), (3, .int z)] := hl
  refine lv_aload_n hx hb dX3_pump_0 rfl (lv_at hl 0 rfl) ?_
  refine lv_iload_n hx hb dX3_pump_1 rfl (lv_at hl 1 rfl) ?_
  refine sc_v (sr_V (i := 0) (As := [.int (nI k)]) (rest := []) ⟨hx, hb, hml, hown, hts⟩ (zX3_needPond l D a cs _ k (by omega) _) (cwV 1 hts gX3_pump_X3_needPond rfl rfl rfl (by decide +kernel) ⟨Nat.le_of_ble_eq_true rfl, Nat.le_of_ble_eq_true rfl⟩) hK hN hw (by omega) sE_o kcX3 rfl hl.1 (Nat.le_of_ble_eq_true rfl) dX3_pump_2 ⟨Nat.le_of_ble_eq_true rfl, Nat.le_of_ble_eq_true rfl⟩) hw hA (fun H locs hw => ?_)
  refine lv_aload_n hx hb dX3_pump_5 rfl (lv_at hl 0 rfl) ?_
  refine lv_iload_n hx hb dX3_pump_6 rfl (lv_at hl 2 rfl) ?_
  refine sc_v (sr_V (i := 0) (As := [.int (nI j)]) (rest := []) ⟨hx, hb, hml, hown, hts⟩ (zX3_needPond l D a cs _ j (by omega) _) (cwV 1 hts gX3_pump_X3_needPond rfl rfl rfl (by decide +kernel) ⟨Nat.le_of_ble_eq_true rfl, Nat.le_of_ble_eq_true rfl⟩) hK hN hw (by omega) sE_o kcX3 rfl hl.1 (Nat.le_of_ble_eq_true rfl) dX3_pump_7 ⟨Nat.le_of_ble_eq_true rfl, Nat.le_of_ble_eq_true rfl⟩) hw hA (fun H locs hw => ?_)
  refine lv_iload_n hx hb dX3_pump_10 rfl (lv_at hl 1 rfl) ?_
  refine lv_iload_n hx hb dX3_pump_11 rfl (lv_at hl 2 rfl) ?_
  refine lv_icmp_ne (tgt := 25) hx hb dX3_pump_12 (by decide) (fun c1 => ?_) (fun c1 => absurd c1 h1)
  refine lv_iload_n hx hb dX3_pump_25 rfl (lv_at hl 3 rfl) ?_
  refine lv_iconst (v := 1) hx hb dX3_pump_26 (by decide) ?_
  refine lv_icmp_ge (tgt := 40) hx hb dX3_pump_27 (by decide) (fun c2 => absurd c2 h2) (fun c2 => ?_)
  exact sx_throwS (cls := xIA) (text := "much is below 1") (ik := 30) (is := 111) (ic := 34) (rest := []) hx hb hst hown (by decide +kernel) hts mX3_pump_0_x4 mX3_pump_1_x4 (by decide +kernel) gX3_pump_x4_x sXB_IA sX_okIA hX hw (hl.1.trans hml.symm) dX3_pump_30 dX3_pump_33 dX3_pump_34 dX3_pump_36 dX3_pump_39 hnx (Nat.le_of_ble_eq_true rfl) (Nat.le_of_ble_eq_true rfl) (Nat.le_of_ble_eq_true rfl) (Nat.le_of_ble_eq_true rfl) hlocks (Nat.le_refl _) (Nat.le_refl _)
theorem mX3_pump_0_x5 : (Cond.fieldLink RX3 10 "SaltRow" "row" "LSaltRow$Row;") ∈ wsX3_pump := by decide +kernel
theorem iX3_pump_X3_x5 : ∀ w ∈ wsX30, w ∈ wsX3_pump := by decide +kernel
theorem mX3_pump_2_x5 : (Cond.fieldLink RX3 46 "SaltRow$Row" "ponds" "[LSaltRow$Pond;") ∈ wsX3_pump := by decide +kernel
theorem iX3_pump_X2_x5 : ∀ w ∈ wsX20, w ∈ wsX3_pump := by decide +kernel
theorem mX3_pump_4_x5 : (Cond.fieldLink RX3 89 "SaltRow$Pond" "brine" "I") ∈ wsX3_pump := by decide +kernel
theorem iX3_pump_X1_x5 : ∀ w ∈ wsX10, w ∈ wsX3_pump := by decide +kernel
theorem mX3_pump_6_x5 : (Cond.classLink RX3 41 xIS) ∈ wsX3_pump := by decide +kernel
theorem mX3_pump_7_x5 : (Cond.initialized xIS) ∈ wsX3_pump := by decide +kernel
theorem gX3_pump_x5_x : ∀ w ∈ (vx_atS RX3 45 xIS xNm).filter goodWord, w ∈ wsX3_pump := by decide +kernel
set_option maxHeartbeats 4000000 in
set_option maxRecDepth 100000 in
theorem zX3_pump_x5 (l : Launch) (hst : l.stackTraces = false) (D : va_G) (a : Nat → Nat) (cs : Nat → ClassId) (σ : sS) (k j : Nat) (hk : k < 8) (hj : j < 8) (z : Int32) (h1 : ¬ nI k = nI j) (h2 : 1 ≤ z) (h3 : ¬ z ≤ σ (5 + 8 * 0 + k) 1) : sMx l yX3_pump wsX3_pump ({ frames := 6, cells := 1, slots := 6, locals := 84 }) D a cs [.ref (a 0), .int (nI k), .int (nI j), .int z] σ xIS := by
  intro sz
  refine vx_ofW (cc := cX3_pump) (maxL := 4) (ret := (some .int)) (by decide) rfl ?_
  intro p e s m args below meth c s₁ B hml hnx hv
  obtain ⟨rfl, ⟨hsz, hv2⟩, hX⟩ := hv
  have hv3 : sB D a cs σ sz s := ⟨hsz, hv2⟩
  subst hsz
  have hw := sH_start hv3
  obtain ⟨-, -, hK, -, hN⟩ := hv3
  have hx := B.exec
  have hb := B.bytes
  have hts := atoms_spec (ws := wsX3_pump) B.pre
  have hown : s.vm.findClass RX3 = some m.cls := findClass_of_methodNamed B.named
  have hlocks := B.notSynchronized
  have hA : ∀ q : Nat, s.heap.size ≤ q → sA a s.heap.size q := sA_new
  have hl := lv_entry ([.ref (a 0), .int (nI k), .int (nI j), .int z]) (n := 4) (Nat.le_of_ble_eq_true rfl)
  rw [lg_entry_eq]
  generalize (lg_sl ([.ref (a 0), .int (nI k), .int (nI j), .int z]) ++ List.replicate (4 - (lg_sl ([.ref (a 0), .int (nI k), .int (nI j), .int z])).length) Slot.unset).toArray = ls at hl ⊢
  have hl : lv_has ls 4 [(0, .ref (a 0)), (1, .int (nI k)), (2, .int (nI j)), (3, .int z)] := hl
  refine lv_aload_n hx hb dX3_pump_0 rfl (lv_at hl 0 rfl) ?_
  refine lv_iload_n hx hb dX3_pump_1 rfl (lv_at hl 1 rfl) ?_
  refine sc_v (sr_V (i := 0) (As := [.int (nI k)]) (rest := []) ⟨hx, hb, hml, hown, hts⟩ (zX3_needPond l D a cs _ k (by omega) _) (cwV 1 hts gX3_pump_X3_needPond rfl rfl rfl (by decide +kernel) ⟨Nat.le_of_ble_eq_true rfl, Nat.le_of_ble_eq_true rfl⟩) hK hN hw (by omega) sE_o kcX3 rfl hl.1 (Nat.le_of_ble_eq_true rfl) dX3_pump_2 ⟨Nat.le_of_ble_eq_true rfl, Nat.le_of_ble_eq_true rfl⟩) hw hA (fun H locs hw => ?_)
  refine lv_aload_n hx hb dX3_pump_5 rfl (lv_at hl 0 rfl) ?_
  refine lv_iload_n hx hb dX3_pump_6 rfl (lv_at hl 2 rfl) ?_
  refine sc_v (sr_V (i := 0) (As := [.int (nI j)]) (rest := []) ⟨hx, hb, hml, hown, hts⟩ (zX3_needPond l D a cs _ j (by omega) _) (cwV 1 hts gX3_pump_X3_needPond rfl rfl rfl (by decide +kernel) ⟨Nat.le_of_ble_eq_true rfl, Nat.le_of_ble_eq_true rfl⟩) hK hN hw (by omega) sE_o kcX3 rfl hl.1 (Nat.le_of_ble_eq_true rfl) dX3_pump_7 ⟨Nat.le_of_ble_eq_true rfl, Nat.le_of_ble_eq_true rfl⟩) hw hA (fun H locs hw => ?_)
  refine lv_iload_n hx hb dX3_pump_10 rfl (lv_at hl 1 rfl) ?_
  refine lv_iload_n hx hb dX3_pump_11 rfl (lv_at hl 2 rfl) ?_
  refine lv_icmp_ne (tgt := 25) hx hb dX3_pump_12 (by decide) (fun c1 => ?_) (fun c1 => absurd c1 h1)
  refine lv_iload_n hx hb dX3_pump_25 rfl (lv_at hl 3 rfl) ?_
  refine lv_iconst (v := 1) hx hb dX3_pump_26 (by decide) ?_
  refine lv_icmp_ge (tgt := 40) hx hb dX3_pump_27 (by decide) (fun c2 => ?_) (fun c2 => absurd h2 c2)
  refine lv_aload_n hx hb dX3_pump_40 rfl (lv_at hl 0 rfl) ?_
  refine sg_oq hx hb hts iX3_pump_X3_x5 hown hK hw 0 (Or.inl ⟨rfl, rfl⟩) (hts _ mX3_pump_0_x5) dX3_pump_41 ?_
  refine sg_rq (r := 0) hx hb hts iX3_pump_X2_x5 hown hK hw (by omega) (hts _ mX3_pump_2_x5) dX3_pump_44 ?_
  refine lv_iload_n hx hb dX3_pump_47 rfl (lv_at hl 1 rfl) ?_
  refine sg_q (r := 0) (k := k) hx hb hK hw (by omega) (by omega) rfl dX3_pump_48 ?_
  refine sg_p hx hb hts iX3_pump_X1_x5 hown hK hw (by omega) 1 (by decide) (hts _ mX3_pump_4_x5) dX3_pump_49 ?_
  refine lv_iload_n hx hb dX3_pump_52 rfl (lv_at hl 3 rfl) ?_
  refine lv_icmp_ge (tgt := 66) hx hb dX3_pump_53 (by decide) (fun c3 => absurd c3 h3) (fun c3 => ?_)
  exact sx_throwS (cls := xIS) (text := "there is less BRINE") (ik := 41) (is := 113) (ic := 45) (rest := []) hx hb hst hown (by decide +kernel) hts mX3_pump_6_x5 mX3_pump_7_x5 (by decide +kernel) gX3_pump_x5_x sXB_IS sX_okIS hX hw (hl.1.trans hml.symm) dX3_pump_56 dX3_pump_59 dX3_pump_60 dX3_pump_62 dX3_pump_65 hnx (Nat.le_of_ble_eq_true rfl) (Nat.le_of_ble_eq_true rfl) (Nat.le_of_ble_eq_true rfl) (Nat.le_of_ble_eq_true rfl) hlocks (Nat.le_refl _) (Nat.le_refl _)
set_option maxHeartbeats 4000000 in
set_option maxRecDepth 100000 in
theorem zX3_right_x1 (l : Launch) (hst : l.stackTraces = false) (D : va_G) (a : Nat → Nat) (cs : Nat → ClassId) (σ : sS) (x0 : Int32) (hp : x0 < 0 ∨ ¬ x0 < 0 ∧ ¬ x0 < σ 0 3) (y z : Int32) : sMx l yX3_right wsX3_right ({ frames := 7, cells := 1, slots := 6, locals := 105 }) D a cs [.ref (a 0), .int x0, .int y, .int z] σ xIO := by
  intro sz
  refine vx_ofW (cc := cX3_right) (maxL := 5) (ret := (some .int)) (by decide) rfl ?_
  intro p e s m args below meth c s₁ B hml hnx hv
  obtain ⟨rfl, ⟨hsz, hv2⟩, hX⟩ := hv
  have hv3 : sB D a cs σ sz s := ⟨hsz, hv2⟩
  subst hsz
  have hw := sH_start hv3
  obtain ⟨-, -, hK, -, hN⟩ := hv3
  have hx := B.exec
  have hb := B.bytes
  have hts := atoms_spec (ws := wsX3_right) B.pre
  have hown : s.vm.findClass RX3 = some m.cls := findClass_of_methodNamed B.named
  have hlocks := B.notSynchronized
  have hA : ∀ q : Nat, s.heap.size ≤ q → sA a s.heap.size q := sA_new
  have hl := lv_entry ([.ref (a 0), .int x0, .int y, .int z]) (n := 5) (Nat.le_of_ble_eq_true rfl)
  rw [lg_entry_eq]
  generalize (lg_sl ([.ref (a 0), .int x0, .int y, .int z]) ++ List.replicate (5 - (lg_sl ([.ref (a 0), .int x0, .int y, .int z])).length) Slot.unset).toArray = ls at hl ⊢
  have hl : lv_has ls 5 [(0, .ref (a 0)), (1, .int x0), (2, .int y), (3, .int z)] := hl
  refine lv_aload_n hx hb dX3_right_0 rfl (lv_at hl 0 rfl) ?_
  refine lv_iload_n hx hb dX3_right_1 rfl (lv_at hl 1 rfl) ?_
  exact sx_pass (As := [.int x0]) (rest := []) ⟨hx, hb, hml, hown, hts⟩ (zX3_needFamily_x l hst D a cs _ x0 hp) (cwV 1 hts gX3_right_X3_needFamily rfl rfl rfl (by decide +kernel) ⟨Nat.le_of_ble_eq_true rfl, Nat.le_of_ble_eq_true rfl⟩) hK hN hX hw rfl hl.1 (Nat.le_of_ble_eq_true rfl) dX3_right_2 ⟨Nat.le_of_ble_eq_true rfl, Nat.le_of_ble_eq_true rfl⟩ hnx hlocks (Nat.le_refl _) (Nat.le_refl _)
set_option maxHeartbeats 4000000 in
set_option maxRecDepth 100000 in
theorem zX3_wash_x1 (l : Launch) (hst : l.stackTraces = false) (D : va_G) (a : Nat → Nat) (cs : Nat → ClassId) (σ : sS) (x0 : Int32) (hp : x0 < 0 ∨ ¬ x0 < 0 ∧ ¬ x0 < σ 0 3)  : sMx l yX3_wash wsX3_wash ({ frames := 7, cells := 1, slots := 6, locals := 105 }) D a cs [.ref (a 0), .int x0] σ xIO := by
  intro sz
  refine vx_ofW (cc := cX3_wash) (maxL := 4) (ret := (some .int)) (by decide) rfl ?_
  intro p e s m args below meth c s₁ B hml hnx hv
  obtain ⟨rfl, ⟨hsz, hv2⟩, hX⟩ := hv
  have hv3 : sB D a cs σ sz s := ⟨hsz, hv2⟩
  subst hsz
  have hw := sH_start hv3
  obtain ⟨-, -, hK, -, hN⟩ := hv3
  have hx := B.exec
  have hb := B.bytes
  have hts := atoms_spec (ws := wsX3_wash) B.pre
  have hown : s.vm.findClass RX3 = some m.cls := findClass_of_methodNamed B.named
  have hlocks := B.notSynchronized
  have hA : ∀ q : Nat, s.heap.size ≤ q → sA a s.heap.size q := sA_new
  have hl := lv_entry ([.ref (a 0), .int x0]) (n := 4) (Nat.le_of_ble_eq_true rfl)
  rw [lg_entry_eq]
  generalize (lg_sl ([.ref (a 0), .int x0]) ++ List.replicate (4 - (lg_sl ([.ref (a 0), .int x0])).length) Slot.unset).toArray = ls at hl ⊢
  have hl : lv_has ls 4 [(0, .ref (a 0)), (1, .int x0)] := hl
  refine lv_aload_n hx hb dX3_wash_0 rfl (lv_at hl 0 rfl) ?_
  refine lv_iload_n hx hb dX3_wash_1 rfl (lv_at hl 1 rfl) ?_
  exact sx_pass (As := [.int x0]) (rest := []) ⟨hx, hb, hml, hown, hts⟩ (zX3_needFamily_x l hst D a cs _ x0 hp) (cwV 1 hts gX3_wash_X3_needFamily rfl rfl rfl (by decide +kernel) ⟨Nat.le_of_ble_eq_true rfl, Nat.le_of_ble_eq_true rfl⟩) hK hN hX hw rfl hl.1 (Nat.le_of_ble_eq_true rfl) dX3_wash_2 ⟨Nat.le_of_ble_eq_true rfl, Nat.le_of_ble_eq_true rfl⟩ hnx hlocks (Nat.le_refl _) (Nat.le_refl _)
set_option maxHeartbeats 4000000 in
set_option maxRecDepth 100000 in
theorem zX3_sell_x1 (l : Launch) (hst : l.stackTraces = false) (D : va_G) (a : Nat → Nat) (cs : Nat → ClassId) (σ : sS) (x0 : Int32) (hp : x0 < 0 ∨ ¬ x0 < 0 ∧ ¬ x0 < σ 0 3) (y z : Int32) : sMx l yX3_sell wsX3_sell ({ frames := 7, cells := 1, slots := 6, locals := 105 }) D a cs [.ref (a 0), .int x0, .int y, .int z] σ xIO := by
  intro sz
  refine vx_ofW (cc := cX3_sell) (maxL := 8) (ret := (some .int)) (by decide) rfl ?_
  intro p e s m args below meth c s₁ B hml hnx hv
  obtain ⟨rfl, ⟨hsz, hv2⟩, hX⟩ := hv
  have hv3 : sB D a cs σ sz s := ⟨hsz, hv2⟩
  subst hsz
  have hw := sH_start hv3
  obtain ⟨-, -, hK, -, hN⟩ := hv3
  have hx := B.exec
  have hb := B.bytes
  have hts := atoms_spec (ws := wsX3_sell) B.pre
  have hown : s.vm.findClass RX3 = some m.cls := findClass_of_methodNamed B.named
  have hlocks := B.notSynchronized
  have hA : ∀ q : Nat, s.heap.size ≤ q → sA a s.heap.size q := sA_new
  have hl := lv_entry ([.ref (a 0), .int x0, .int y, .int z]) (n := 8) (Nat.le_of_ble_eq_true rfl)
  rw [lg_entry_eq]
  generalize (lg_sl ([.ref (a 0), .int x0, .int y, .int z]) ++ List.replicate (8 - (lg_sl ([.ref (a 0), .int x0, .int y, .int z])).length) Slot.unset).toArray = ls at hl ⊢
  have hl : lv_has ls 8 [(0, .ref (a 0)), (1, .int x0), (2, .int y), (3, .int z)] := hl
  refine lv_aload_n hx hb dX3_sell_0 rfl (lv_at hl 0 rfl) ?_
  refine lv_iload_n hx hb dX3_sell_1 rfl (lv_at hl 1 rfl) ?_
  exact sx_pass (As := [.int x0]) (rest := []) ⟨hx, hb, hml, hown, hts⟩ (zX3_needFamily_x l hst D a cs _ x0 hp) (cwV 1 hts gX3_sell_X3_needFamily rfl rfl rfl (by decide +kernel) ⟨Nat.le_of_ble_eq_true rfl, Nat.le_of_ble_eq_true rfl⟩) hK hN hX hw rfl hl.1 (Nat.le_of_ble_eq_true rfl) dX3_sell_2 ⟨Nat.le_of_ble_eq_true rfl, Nat.le_of_ble_eq_true rfl⟩ hnx hlocks (Nat.le_refl _) (Nat.le_refl _)
set_option maxHeartbeats 4000000 in
set_option maxRecDepth 100000 in
theorem zX3_ofFamily_x1 (l : Launch) (hst : l.stackTraces = false) (D : va_G) (a : Nat → Nat) (cs : Nat → ClassId) (σ : sS) (x0 : Int32) (hp : x0 < 0 ∨ ¬ x0 < 0 ∧ ¬ x0 < σ 0 3) (y : Int32) : sMx l yX3_ofFamily wsX3_ofFamily ({ frames := 7, cells := 1, slots := 6, locals := 105 }) D a cs [.ref (a 0), .int x0, .int y] σ xIO := by
  intro sz
  refine vx_ofW (cc := cX3_ofFamily) (maxL := 3) (ret := (some .int)) (by decide) rfl ?_
  intro p e s m args below meth c s₁ B hml hnx hv
  obtain ⟨rfl, ⟨hsz, hv2⟩, hX⟩ := hv
  have hv3 : sB D a cs σ sz s := ⟨hsz, hv2⟩
  subst hsz
  have hw := sH_start hv3
  obtain ⟨-, -, hK, -, hN⟩ := hv3
  have hx := B.exec
  have hb := B.bytes
  have hts := atoms_spec (ws := wsX3_ofFamily) B.pre
  have hown : s.vm.findClass RX3 = some m.cls := findClass_of_methodNamed B.named
  have hlocks := B.notSynchronized
  have hA : ∀ q : Nat, s.heap.size ≤ q → sA a s.heap.size q := sA_new
  have hl := lv_entry ([.ref (a 0), .int x0, .int y]) (n := 3) (Nat.le_of_ble_eq_true rfl)
  rw [lg_entry_eq]
  generalize (lg_sl ([.ref (a 0), .int x0, .int y]) ++ List.replicate (3 - (lg_sl ([.ref (a 0), .int x0, .int y])).length) Slot.unset).toArray = ls at hl ⊢
  have hl : lv_has ls 3 [(0, .ref (a 0)), (1, .int x0), (2, .int y)] := hl
  refine lv_aload_n hx hb dX3_ofFamily_0 rfl (lv_at hl 0 rfl) ?_
  refine lv_iload_n hx hb dX3_ofFamily_1 rfl (lv_at hl 1 rfl) ?_
  exact sx_pass (As := [.int x0]) (rest := []) ⟨hx, hb, hml, hown, hts⟩ (zX3_needFamily_x l hst D a cs _ x0 hp) (cwV 1 hts gX3_ofFamily_X3_needFamily rfl rfl rfl (by decide +kernel) ⟨Nat.le_of_ble_eq_true rfl, Nat.le_of_ble_eq_true rfl⟩) hK hN hX hw rfl hl.1 (Nat.le_of_ble_eq_true rfl) dX3_ofFamily_2 ⟨Nat.le_of_ble_eq_true rfl, Nat.le_of_ble_eq_true rfl⟩ hnx hlocks (Nat.le_refl _) (Nat.le_refl _)
set_option maxHeartbeats 4000000 in
set_option maxRecDepth 100000 in
theorem zX3_rightOf_x1 (l : Launch) (hst : l.stackTraces = false) (D : va_G) (a : Nat → Nat) (cs : Nat → ClassId) (σ : sS) (x0 : Int32) (hp : x0 < 0 ∨ ¬ x0 < 0 ∧ ¬ x0 < σ 0 3) (y : Int32) : sMx l yX3_rightOf wsX3_rightOf ({ frames := 7, cells := 1, slots := 6, locals := 105 }) D a cs [.ref (a 0), .int x0, .int y] σ xIO := by
  intro sz
  refine vx_ofW (cc := cX3_rightOf) (maxL := 3) (ret := (some .int)) (by decide) rfl ?_
  intro p e s m args below meth c s₁ B hml hnx hv
  obtain ⟨rfl, ⟨hsz, hv2⟩, hX⟩ := hv
  have hv3 : sB D a cs σ sz s := ⟨hsz, hv2⟩
  subst hsz
  have hw := sH_start hv3
  obtain ⟨-, -, hK, -, hN⟩ := hv3
  have hx := B.exec
  have hb := B.bytes
  have hts := atoms_spec (ws := wsX3_rightOf) B.pre
  have hown : s.vm.findClass RX3 = some m.cls := findClass_of_methodNamed B.named
  have hlocks := B.notSynchronized
  have hA : ∀ q : Nat, s.heap.size ≤ q → sA a s.heap.size q := sA_new
  have hl := lv_entry ([.ref (a 0), .int x0, .int y]) (n := 3) (Nat.le_of_ble_eq_true rfl)
  rw [lg_entry_eq]
  generalize (lg_sl ([.ref (a 0), .int x0, .int y]) ++ List.replicate (3 - (lg_sl ([.ref (a 0), .int x0, .int y])).length) Slot.unset).toArray = ls at hl ⊢
  have hl : lv_has ls 3 [(0, .ref (a 0)), (1, .int x0), (2, .int y)] := hl
  refine lv_aload_n hx hb dX3_rightOf_0 rfl (lv_at hl 0 rfl) ?_
  refine lv_iload_n hx hb dX3_rightOf_1 rfl (lv_at hl 1 rfl) ?_
  exact sx_pass (As := [.int x0]) (rest := []) ⟨hx, hb, hml, hown, hts⟩ (zX3_needFamily_x l hst D a cs _ x0 hp) (cwV 1 hts gX3_rightOf_X3_needFamily rfl rfl rfl (by decide +kernel) ⟨Nat.le_of_ble_eq_true rfl, Nat.le_of_ble_eq_true rfl⟩) hK hN hX hw rfl hl.1 (Nat.le_of_ble_eq_true rfl) dX3_rightOf_2 ⟨Nat.le_of_ble_eq_true rfl, Nat.le_of_ble_eq_true rfl⟩ hnx hlocks (Nat.le_refl _) (Nat.le_refl _)
set_option maxHeartbeats 4000000 in
set_option maxRecDepth 100000 in
theorem zX3_harvest_x1 (l : Launch) (hst : l.stackTraces = false) (D : va_G) (a : Nat → Nat) (cs : Nat → ClassId) (σ : sS) (x0 : Int32) (hp : x0 < 5 ∨ ¬ x0 < 5 ∧ ¬ x0 < 8) (y : Int32) : sMx l yX3_harvest wsX3_harvest ({ frames := 7, cells := 1, slots := 6, locals := 105 }) D a cs [.ref (a 0), .int x0, .int y] σ xIO := by
  intro sz
  refine vx_ofW (cc := cX3_harvest) (maxL := 7) (ret := (some .int)) (by decide) rfl ?_
  intro p e s m args below meth c s₁ B hml hnx hv
  obtain ⟨rfl, ⟨hsz, hv2⟩, hX⟩ := hv
  have hv3 : sB D a cs σ sz s := ⟨hsz, hv2⟩
  subst hsz
  have hw := sH_start hv3
  obtain ⟨-, -, hK, -, hN⟩ := hv3
  have hx := B.exec
  have hb := B.bytes
  have hts := atoms_spec (ws := wsX3_harvest) B.pre
  have hown : s.vm.findClass RX3 = some m.cls := findClass_of_methodNamed B.named
  have hlocks := B.notSynchronized
  have hA : ∀ q : Nat, s.heap.size ≤ q → sA a s.heap.size q := sA_new
  have hl := lv_entry ([.ref (a 0), .int x0, .int y]) (n := 7) (Nat.le_of_ble_eq_true rfl)
  rw [lg_entry_eq]
  generalize (lg_sl ([.ref (a 0), .int x0, .int y]) ++ List.replicate (7 - (lg_sl ([.ref (a 0), .int x0, .int y])).length) Slot.unset).toArray = ls at hl ⊢
  have hl : lv_has ls 7 [(0, .ref (a 0)), (1, .int x0), (2, .int y)] := hl
  refine lv_aload_n hx hb dX3_harvest_0 rfl (lv_at hl 0 rfl) ?_
  refine lv_iload_n hx hb dX3_harvest_1 rfl (lv_at hl 1 rfl) ?_
  exact sx_pass (As := [.int x0]) (rest := []) ⟨hx, hb, hml, hown, hts⟩ (zX3_needPan_x l hst D a cs _ x0 hp) (cwV 1 hts gX3_harvest_X3_needPan rfl rfl rfl (by decide +kernel) ⟨Nat.le_of_ble_eq_true rfl, Nat.le_of_ble_eq_true rfl⟩) hK hN hX hw rfl hl.1 (Nat.le_of_ble_eq_true rfl) dX3_harvest_2 ⟨Nat.le_of_ble_eq_true rfl, Nat.le_of_ble_eq_true rfl⟩ hnx hlocks (Nat.le_refl _) (Nat.le_refl _)
theorem mX3_harvest_0_x2 : (Cond.fieldLink RX3 10 "SaltRow" "row" "LSaltRow$Row;") ∈ wsX3_harvest := by decide +kernel
theorem iX3_harvest_X3_x2 : ∀ w ∈ wsX30, w ∈ wsX3_harvest := by decide +kernel
theorem mX3_harvest_2_x2 : (Cond.fieldLink RX3 46 "SaltRow$Row" "ponds" "[LSaltRow$Pond;") ∈ wsX3_harvest := by decide +kernel
theorem iX3_harvest_X2_x2 : ∀ w ∈ wsX20, w ∈ wsX3_harvest := by decide +kernel
theorem mX3_harvest_4_x2 : (Cond.classLink RX3 41 xIS) ∈ wsX3_harvest := by decide +kernel
theorem mX3_harvest_5_x2 : (Cond.initialized xIS) ∈ wsX3_harvest := by decide +kernel
theorem gX3_harvest_x2_x : ∀ w ∈ (vx_atS RX3 45 xIS xNm).filter goodWord, w ∈ wsX3_harvest := by decide +kernel
set_option maxHeartbeats 4000000 in
set_option maxRecDepth 100000 in
theorem zX3_harvest_x2 (l : Launch) (hst : l.stackTraces = false) (D : va_G) (a : Nat → Nat) (cs : Nat → ClassId) (σ : sS) (q : Nat) (hq : q < 3) (y : Int32) (h1 : f_X1_canBeHarvested (σ (5 + 8 * 0 + (5 + q))) = 0) : sMx l yX3_harvest wsX3_harvest ({ frames := 6, cells := 1, slots := 6, locals := 84 }) D a cs [.ref (a 0), .int (nI (5 + q)), .int y] σ xIS := by
  intro sz
  refine vx_ofW (cc := cX3_harvest) (maxL := 7) (ret := (some .int)) (by decide) rfl ?_
  intro p e s m args below meth c s₁ B hml hnx hv
  obtain ⟨rfl, ⟨hsz, hv2⟩, hX⟩ := hv
  have hv3 : sB D a cs σ sz s := ⟨hsz, hv2⟩
  subst hsz
  have hw := sH_start hv3
  obtain ⟨-, -, hK, -, hN⟩ := hv3
  have hx := B.exec
  have hb := B.bytes
  have hts := atoms_spec (ws := wsX3_harvest) B.pre
  have hown : s.vm.findClass RX3 = some m.cls := findClass_of_methodNamed B.named
  have hlocks := B.notSynchronized
  have hA : ∀ q : Nat, s.heap.size ≤ q → sA a s.heap.size q := sA_new
  have hl := lv_entry ([.ref (a 0), .int (nI (5 + q)), .int y]) (n := 7) (Nat.le_of_ble_eq_true rfl)
  rw [lg_entry_eq]
  generalize (lg_sl ([.ref (a 0), .int (nI (5 + q)), .int y]) ++ List.replicate (7 - (lg_sl ([.ref (a 0), .int (nI (5 + q)), .int y])).length) Slot.unset).toArray = ls at hl ⊢
  have hl : lv_has ls 7 [(0, .ref (a 0)), (1, .int (nI (5 + q))), (2, .int y)] := hl
  refine lv_aload_n hx hb dX3_harvest_0 rfl (lv_at hl 0 rfl) ?_
  refine lv_iload_n hx hb dX3_harvest_1 rfl (lv_at hl 1 rfl) ?_
  refine sc_v (sr_V (i := 0) (As := [.int (nI (5 + q))]) (rest := []) ⟨hx, hb, hml, hown, hts⟩ (zX3_needPan l D a cs _ q (by omega) _) (cwV 1 hts gX3_harvest_X3_needPan rfl rfl rfl (by decide +kernel) ⟨Nat.le_of_ble_eq_true rfl, Nat.le_of_ble_eq_true rfl⟩) hK hN hw (by omega) sE_o kcX3 rfl hl.1 (Nat.le_of_ble_eq_true rfl) dX3_harvest_2 ⟨Nat.le_of_ble_eq_true rfl, Nat.le_of_ble_eq_true rfl⟩) hw hA (fun H locs hw => ?_)
  refine lv_aload_n hx hb dX3_harvest_5 rfl (lv_at hl 0 rfl) ?_
  refine sg_oq hx hb hts iX3_harvest_X3_x2 hown hK hw 0 (Or.inl ⟨rfl, rfl⟩) (hts _ mX3_harvest_0_x2) dX3_harvest_6 ?_
  refine sg_rq (r := 0) hx hb hts iX3_harvest_X2_x2 hown hK hw (by omega) (hts _ mX3_harvest_2_x2) dX3_harvest_9 ?_
  refine lv_iload_n hx hb dX3_harvest_12 rfl (lv_at hl 1 rfl) ?_
  refine sg_q (r := 0) (k := (5 + q)) hx hb hK hw (by omega) (by omega) rfl dX3_harvest_13 ?_
  refine lv_astore_n (lv' := [(3, .ref (a (5 + 8 * 0 + (5 + q)))), (0, .ref (a 0)), (1, .int (nI (5 + q))), (2, .int y)]) hx hb dX3_harvest_14 rfl hl (by decide) rfl (fun ls hl => ?_)
  refine lv_aload_n hx hb dX3_harvest_15 rfl (lv_at hl 0 rfl) ?_
  have hw := sH_foc (i := 5 + 8 * 0 + (5 + q)) hw
  refine sc_i (sr_V (i := 5 + 8 * 0 + (5 + q)) (As := []) (rest := []) ⟨hx, hb, hml, hown, hts⟩ (zX1_canBeHarvested l D a cs _ (5 + 8 * 0 + (5 + q)) (by omega) _ _) (cwV 0 hts gX3_harvest_X1_canBeHarvested rfl rfl rfl (by decide +kernel) ⟨Nat.le_of_ble_eq_true rfl, Nat.le_of_ble_eq_true rfl⟩) hK hN hw (by omega) (sE_p (by omega)) kcX1 rfl hl.1 (Nat.le_of_ble_eq_true rfl) dX3_harvest_16 ⟨Nat.le_of_ble_eq_true rfl, Nat.le_of_ble_eq_true rfl⟩) hw hA (fun H locs hw => ?_)
  have hw := sH_unf hw
  refine lv_if_ne (tgt := 32) hx hb dX3_harvest_19 (by decide) (fun c1 => absurd h1 c1) (fun c1 => ?_)
  exact sx_throwS (cls := xIS) (text := "no SALT in the CRUST, or harvested this DAY") (ik := 41) (is := 152) (ic := 45) (rest := []) hx hb hst hown (by decide +kernel) hts mX3_harvest_4_x2 mX3_harvest_5_x2 (by decide +kernel) gX3_harvest_x2_x sXB_IS sX_okIS hX hw (hl.1.trans hml.symm) dX3_harvest_22 dX3_harvest_25 dX3_harvest_26 dX3_harvest_28 dX3_harvest_31 hnx (Nat.le_of_ble_eq_true rfl) (Nat.le_of_ble_eq_true rfl) (Nat.le_of_ble_eq_true rfl) (Nat.le_of_ble_eq_true rfl) hlocks (Nat.le_refl _) (Nat.le_refl _)
set_option maxHeartbeats 4000000 in
set_option maxRecDepth 100000 in
theorem zX3_flower_x1 (l : Launch) (hst : l.stackTraces = false) (D : va_G) (a : Nat → Nat) (cs : Nat → ClassId) (σ : sS) (x0 : Int32) (hp : x0 < 5 ∨ ¬ x0 < 5 ∧ ¬ x0 < 8)  : sMx l yX3_flower wsX3_flower ({ frames := 7, cells := 1, slots := 6, locals := 105 }) D a cs [.ref (a 0), .int x0] σ xIO := by
  intro sz
  refine vx_ofW (cc := cX3_flower) (maxL := 4) (ret := (some .int)) (by decide) rfl ?_
  intro p e s m args below meth c s₁ B hml hnx hv
  obtain ⟨rfl, ⟨hsz, hv2⟩, hX⟩ := hv
  have hv3 : sB D a cs σ sz s := ⟨hsz, hv2⟩
  subst hsz
  have hw := sH_start hv3
  obtain ⟨-, -, hK, -, hN⟩ := hv3
  have hx := B.exec
  have hb := B.bytes
  have hts := atoms_spec (ws := wsX3_flower) B.pre
  have hown : s.vm.findClass RX3 = some m.cls := findClass_of_methodNamed B.named
  have hlocks := B.notSynchronized
  have hA : ∀ q : Nat, s.heap.size ≤ q → sA a s.heap.size q := sA_new
  have hl := lv_entry ([.ref (a 0), .int x0]) (n := 4) (Nat.le_of_ble_eq_true rfl)
  rw [lg_entry_eq]
  generalize (lg_sl ([.ref (a 0), .int x0]) ++ List.replicate (4 - (lg_sl ([.ref (a 0), .int x0])).length) Slot.unset).toArray = ls at hl ⊢
  have hl : lv_has ls 4 [(0, .ref (a 0)), (1, .int x0)] := hl
  refine lv_aload_n hx hb dX3_flower_0 rfl (lv_at hl 0 rfl) ?_
  refine lv_iload_n hx hb dX3_flower_1 rfl (lv_at hl 1 rfl) ?_
  exact sx_pass (As := [.int x0]) (rest := []) ⟨hx, hb, hml, hown, hts⟩ (zX3_needPan_x l hst D a cs _ x0 hp) (cwV 1 hts gX3_flower_X3_needPan rfl rfl rfl (by decide +kernel) ⟨Nat.le_of_ble_eq_true rfl, Nat.le_of_ble_eq_true rfl⟩) hK hN hX hw rfl hl.1 (Nat.le_of_ble_eq_true rfl) dX3_flower_2 ⟨Nat.le_of_ble_eq_true rfl, Nat.le_of_ble_eq_true rfl⟩ hnx hlocks (Nat.le_refl _) (Nat.le_refl _)
theorem mX3_flower_0_x2 : (Cond.fieldLink RX3 10 "SaltRow" "row" "LSaltRow$Row;") ∈ wsX3_flower := by decide +kernel
theorem iX3_flower_X3_x2 : ∀ w ∈ wsX30, w ∈ wsX3_flower := by decide +kernel
theorem mX3_flower_2_x2 : (Cond.fieldLink RX3 46 "SaltRow$Row" "ponds" "[LSaltRow$Pond;") ∈ wsX3_flower := by decide +kernel
theorem iX3_flower_X2_x2 : ∀ w ∈ wsX20, w ∈ wsX3_flower := by decide +kernel
theorem mX3_flower_4_x2 : (Cond.fieldLink RX3 182 "SaltRow$Row" "sun" "I") ∈ wsX3_flower := by decide +kernel
theorem mX3_flower_5_x2 : (Cond.classLink RX3 41 xIS) ∈ wsX3_flower := by decide +kernel
theorem mX3_flower_6_x2 : (Cond.initialized xIS) ∈ wsX3_flower := by decide +kernel
theorem gX3_flower_x2_x : ∀ w ∈ (vx_atS RX3 45 xIS xNm).filter goodWord, w ∈ wsX3_flower := by decide +kernel
set_option maxHeartbeats 4000000 in
set_option maxRecDepth 100000 in
theorem zX3_flower_x2 (l : Launch) (hst : l.stackTraces = false) (D : va_G) (a : Nat → Nat) (cs : Nat → ClassId) (σ : sS) (q : Nat) (hq : q < 3) (h1 : σ (1 + 0) 2 < 6) : sMx l yX3_flower wsX3_flower ({ frames := 6, cells := 1, slots := 6, locals := 84 }) D a cs [.ref (a 0), .int (nI (5 + q))] σ xIS := by
  intro sz
  refine vx_ofW (cc := cX3_flower) (maxL := 4) (ret := (some .int)) (by decide) rfl ?_
  intro p e s m args below meth c s₁ B hml hnx hv
  obtain ⟨rfl, ⟨hsz, hv2⟩, hX⟩ := hv
  have hv3 : sB D a cs σ sz s := ⟨hsz, hv2⟩
  subst hsz
  have hw := sH_start hv3
  obtain ⟨-, -, hK, -, hN⟩ := hv3
  have hx := B.exec
  have hb := B.bytes
  have hts := atoms_spec (ws := wsX3_flower) B.pre
  have hown : s.vm.findClass RX3 = some m.cls := findClass_of_methodNamed B.named
  have hlocks := B.notSynchronized
  have hA : ∀ q : Nat, s.heap.size ≤ q → sA a s.heap.size q := sA_new
  have hl := lv_entry ([.ref (a 0), .int (nI (5 + q))]) (n := 4) (Nat.le_of_ble_eq_true rfl)
  rw [lg_entry_eq]
  generalize (lg_sl ([.ref (a 0), .int (nI (5 + q))]) ++ List.replicate (4 - (lg_sl ([.ref (a 0), .int (nI (5 + q))])).length) Slot.unset).toArray = ls at hl ⊢
  have hl : lv_has ls 4 [(0, .ref (a 0)), (1, .int (nI (5 + q)))] := hl
  refine lv_aload_n hx hb dX3_flower_0 rfl (lv_at hl 0 rfl) ?_
  refine lv_iload_n hx hb dX3_flower_1 rfl (lv_at hl 1 rfl) ?_
  refine sc_v (sr_V (i := 0) (As := [.int (nI (5 + q))]) (rest := []) ⟨hx, hb, hml, hown, hts⟩ (zX3_needPan l D a cs _ q (by omega) _) (cwV 1 hts gX3_flower_X3_needPan rfl rfl rfl (by decide +kernel) ⟨Nat.le_of_ble_eq_true rfl, Nat.le_of_ble_eq_true rfl⟩) hK hN hw (by omega) sE_o kcX3 rfl hl.1 (Nat.le_of_ble_eq_true rfl) dX3_flower_2 ⟨Nat.le_of_ble_eq_true rfl, Nat.le_of_ble_eq_true rfl⟩) hw hA (fun H locs hw => ?_)
  refine lv_aload_n hx hb dX3_flower_5 rfl (lv_at hl 0 rfl) ?_
  refine sg_oq hx hb hts iX3_flower_X3_x2 hown hK hw 0 (Or.inl ⟨rfl, rfl⟩) (hts _ mX3_flower_0_x2) dX3_flower_6 ?_
  refine sg_rq (r := 0) hx hb hts iX3_flower_X2_x2 hown hK hw (by omega) (hts _ mX3_flower_2_x2) dX3_flower_9 ?_
  refine lv_iload_n hx hb dX3_flower_12 rfl (lv_at hl 1 rfl) ?_
  refine sg_q (r := 0) (k := (5 + q)) hx hb hK hw (by omega) (by omega) rfl dX3_flower_13 ?_
  refine lv_astore_n (lv' := [(2, .ref (a (5 + 8 * 0 + (5 + q)))), (0, .ref (a 0)), (1, .int (nI (5 + q)))]) hx hb dX3_flower_14 rfl hl (by decide) rfl (fun ls hl => ?_)
  refine lv_aload_n hx hb dX3_flower_15 rfl (lv_at hl 1 rfl) ?_
  refine sg_oq hx hb hts iX3_flower_X3_x2 hown hK hw 0 (Or.inl ⟨rfl, rfl⟩) (hts _ mX3_flower_0_x2) dX3_flower_16 ?_
  refine sg_r (r := 0) hx hb hts iX3_flower_X2_x2 hown hK hw (by omega) 2 (by decide) (hts _ mX3_flower_4_x2) dX3_flower_19 ?_
  refine lv_bipush (v := 6) hx hb dX3_flower_22 (by decide) ?_
  refine lv_icmp_lt (tgt := 47) hx hb dX3_flower_24 (by decide) (fun c1 => ?_) (fun c1 => absurd h1 c1)
  exact sx_throwS (cls := xIS) (text := "SUN, WIND or STRENGTH do not let it") (ik := 41) (is := 188) (ic := 45) (rest := []) hx hb hst hown (by decide +kernel) hts mX3_flower_5_x2 mX3_flower_6_x2 (by decide +kernel) gX3_flower_x2_x sXB_IS sX_okIS hX hw (hl.1.trans hml.symm) dX3_flower_47 dX3_flower_50 dX3_flower_51 dX3_flower_53 dX3_flower_56 hnx (Nat.le_of_ble_eq_true rfl) (Nat.le_of_ble_eq_true rfl) (Nat.le_of_ble_eq_true rfl) (Nat.le_of_ble_eq_true rfl) hlocks (Nat.le_refl _) (Nat.le_refl _)
set_option maxHeartbeats 4000000 in
set_option maxRecDepth 100000 in
theorem zX3_ofPond_x1 (l : Launch) (hst : l.stackTraces = false) (D : va_G) (a : Nat → Nat) (cs : Nat → ClassId) (σ : sS) (x0 : Int32) (hp : x0 < 0 ∨ ¬ x0 < 0 ∧ ¬ x0 < 8) (y : Int32) : sMx l yX3_ofPond wsX3_ofPond ({ frames := 7, cells := 1, slots := 6, locals := 105 }) D a cs [.ref (a 0), .int x0, .int y] σ xIO := by
  intro sz
  refine vx_ofW (cc := cX3_ofPond) (maxL := 3) (ret := (some .int)) (by decide) rfl ?_
  intro p e s m args below meth c s₁ B hml hnx hv
  obtain ⟨rfl, ⟨hsz, hv2⟩, hX⟩ := hv
  have hv3 : sB D a cs σ sz s := ⟨hsz, hv2⟩
  subst hsz
  have hw := sH_start hv3
  obtain ⟨-, -, hK, -, hN⟩ := hv3
  have hx := B.exec
  have hb := B.bytes
  have hts := atoms_spec (ws := wsX3_ofPond) B.pre
  have hown : s.vm.findClass RX3 = some m.cls := findClass_of_methodNamed B.named
  have hlocks := B.notSynchronized
  have hA : ∀ q : Nat, s.heap.size ≤ q → sA a s.heap.size q := sA_new
  have hl := lv_entry ([.ref (a 0), .int x0, .int y]) (n := 3) (Nat.le_of_ble_eq_true rfl)
  rw [lg_entry_eq]
  generalize (lg_sl ([.ref (a 0), .int x0, .int y]) ++ List.replicate (3 - (lg_sl ([.ref (a 0), .int x0, .int y])).length) Slot.unset).toArray = ls at hl ⊢
  have hl : lv_has ls 3 [(0, .ref (a 0)), (1, .int x0), (2, .int y)] := hl
  refine lv_aload_n hx hb dX3_ofPond_0 rfl (lv_at hl 0 rfl) ?_
  refine lv_iload_n hx hb dX3_ofPond_1 rfl (lv_at hl 1 rfl) ?_
  exact sx_pass (As := [.int x0]) (rest := []) ⟨hx, hb, hml, hown, hts⟩ (zX3_needPond_x l hst D a cs _ x0 hp) (cwV 1 hts gX3_ofPond_X3_needPond rfl rfl rfl (by decide +kernel) ⟨Nat.le_of_ble_eq_true rfl, Nat.le_of_ble_eq_true rfl⟩) hK hN hX hw rfl hl.1 (Nat.le_of_ble_eq_true rfl) dX3_ofPond_2 ⟨Nat.le_of_ble_eq_true rfl, Nat.le_of_ble_eq_true rfl⟩ hnx hlocks (Nat.le_refl _) (Nat.le_refl _)
theorem mX3_ofPond_0_x2 : (Cond.classLink RX3 30 xIA) ∈ wsX3_ofPond := by decide +kernel
theorem mX3_ofPond_1_x2 : (Cond.initialized xIA) ∈ wsX3_ofPond := by decide +kernel
theorem gX3_ofPond_x2_x : ∀ w ∈ (vx_atS RX3 34 xIA xNm).filter goodWord, w ∈ wsX3_ofPond := by decide +kernel
set_option maxHeartbeats 4000000 in
set_option maxRecDepth 100000 in
theorem zX3_ofPond_x2 (l : Launch) (hst : l.stackTraces = false) (D : va_G) (a : Nat → Nat) (cs : Nat → ClassId) (σ : sS) (k : Nat) (hk : k < 8) (y : Int32) (h1 : y < 0) : sMx l yX3_ofPond wsX3_ofPond ({ frames := 6, cells := 1, slots := 6, locals := 84 }) D a cs [.ref (a 0), .int (nI k), .int y] σ xIA := by
  intro sz
  refine vx_ofW (cc := cX3_ofPond) (maxL := 3) (ret := (some .int)) (by decide) rfl ?_
  intro p e s m args below meth c s₁ B hml hnx hv
  obtain ⟨rfl, ⟨hsz, hv2⟩, hX⟩ := hv
  have hv3 : sB D a cs σ sz s := ⟨hsz, hv2⟩
  subst hsz
  have hw := sH_start hv3
  obtain ⟨-, -, hK, -, hN⟩ := hv3
  have hx := B.exec
  have hb := B.bytes
  have hts := atoms_spec (ws := wsX3_ofPond) B.pre
  have hown : s.vm.findClass RX3 = some m.cls := findClass_of_methodNamed B.named
  have hlocks := B.notSynchronized
  have hA : ∀ q : Nat, s.heap.size ≤ q → sA a s.heap.size q := sA_new
  have hl := lv_entry ([.ref (a 0), .int (nI k), .int y]) (n := 3) (Nat.le_of_ble_eq_true rfl)
  rw [lg_entry_eq]
  generalize (lg_sl ([.ref (a 0), .int (nI k), .int y]) ++ List.replicate (3 - (lg_sl ([.ref (a 0), .int (nI k), .int y])).length) Slot.unset).toArray = ls at hl ⊢
  have hl : lv_has ls 3 [(0, .ref (a 0)), (1, .int (nI k)), (2, .int y)] := hl
  refine lv_aload_n hx hb dX3_ofPond_0 rfl (lv_at hl 0 rfl) ?_
  refine lv_iload_n hx hb dX3_ofPond_1 rfl (lv_at hl 1 rfl) ?_
  refine sc_v (sr_V (i := 0) (As := [.int (nI k)]) (rest := []) ⟨hx, hb, hml, hown, hts⟩ (zX3_needPond l D a cs _ k (by omega) _) (cwV 1 hts gX3_ofPond_X3_needPond rfl rfl rfl (by decide +kernel) ⟨Nat.le_of_ble_eq_true rfl, Nat.le_of_ble_eq_true rfl⟩) hK hN hw (by omega) sE_o kcX3 rfl hl.1 (Nat.le_of_ble_eq_true rfl) dX3_ofPond_2 ⟨Nat.le_of_ble_eq_true rfl, Nat.le_of_ble_eq_true rfl⟩) hw hA (fun H locs hw => ?_)
  refine lv_iload_n hx hb dX3_ofPond_5 rfl (lv_at hl 2 rfl) ?_
  refine lv_if_lt (tgt := 15) hx hb dX3_ofPond_6 (by decide) (fun c1 => ?_) (fun c1 => absurd h1 c1)
  exact sx_throwS (cls := xIA) (text := "what is not 0 to 10") (ik := 30) (is := 221) (ic := 34) (rest := []) hx hb hst hown (by decide +kernel) hts mX3_ofPond_0_x2 mX3_ofPond_1_x2 (by decide +kernel) gX3_ofPond_x2_x sXB_IA sX_okIA hX hw (hl.1.trans hml.symm) dX3_ofPond_15 dX3_ofPond_18 dX3_ofPond_19 dX3_ofPond_21 dX3_ofPond_24 hnx (Nat.le_of_ble_eq_true rfl) (Nat.le_of_ble_eq_true rfl) (Nat.le_of_ble_eq_true rfl) (Nat.le_of_ble_eq_true rfl) hlocks (Nat.le_refl _) (Nat.le_refl _)
theorem mX3_ofPond_0_x3 : (Cond.classLink RX3 30 xIA) ∈ wsX3_ofPond := by decide +kernel
theorem mX3_ofPond_1_x3 : (Cond.initialized xIA) ∈ wsX3_ofPond := by decide +kernel
theorem gX3_ofPond_x3_x : ∀ w ∈ (vx_atS RX3 34 xIA xNm).filter goodWord, w ∈ wsX3_ofPond := by decide +kernel
set_option maxHeartbeats 4000000 in
set_option maxRecDepth 100000 in
theorem zX3_ofPond_x3 (l : Launch) (hst : l.stackTraces = false) (D : va_G) (a : Nat → Nat) (cs : Nat → ClassId) (σ : sS) (k : Nat) (hk : k < 8) (y : Int32) (h1 : ¬ y < 0) (h2 : ¬ y ≤ 10) : sMx l yX3_ofPond wsX3_ofPond ({ frames := 6, cells := 1, slots := 6, locals := 84 }) D a cs [.ref (a 0), .int (nI k), .int y] σ xIA := by
  intro sz
  refine vx_ofW (cc := cX3_ofPond) (maxL := 3) (ret := (some .int)) (by decide) rfl ?_
  intro p e s m args below meth c s₁ B hml hnx hv
  obtain ⟨rfl, ⟨hsz, hv2⟩, hX⟩ := hv
  have hv3 : sB D a cs σ sz s := ⟨hsz, hv2⟩
  subst hsz
  have hw := sH_start hv3
  obtain ⟨-, -, hK, -, hN⟩ := hv3
  have hx := B.exec
  have hb := B.bytes
  have hts := atoms_spec (ws := wsX3_ofPond) B.pre
  have hown : s.vm.findClass RX3 = some m.cls := findClass_of_methodNamed B.named
  have hlocks := B.notSynchronized
  have hA : ∀ q : Nat, s.heap.size ≤ q → sA a s.heap.size q := sA_new
  have hl := lv_entry ([.ref (a 0), .int (nI k), .int y]) (n := 3) (Nat.le_of_ble_eq_true rfl)
  rw [lg_entry_eq]
  generalize (lg_sl ([.ref (a 0), .int (nI k), .int y]) ++ List.replicate (3 - (lg_sl ([.ref (a 0), .int (nI k), .int y])).length) Slot.unset).toArray = ls at hl ⊢
  have hl : lv_has ls 3 [(0, .ref (a 0)), (1, .int (nI k)), (2, .int y)] := hl
  refine lv_aload_n hx hb dX3_ofPond_0 rfl (lv_at hl 0 rfl) ?_
  refine lv_iload_n hx hb dX3_ofPond_1 rfl (lv_at hl 1 rfl) ?_
  refine sc_v (sr_V (i := 0) (As := [.int (nI k)]) (rest := []) ⟨hx, hb, hml, hown, hts⟩ (zX3_needPond l D a cs _ k (by omega) _) (cwV 1 hts gX3_ofPond_X3_needPond rfl rfl rfl (by decide +kernel) ⟨Nat.le_of_ble_eq_true rfl, Nat.le_of_ble_eq_true rfl⟩) hK hN hw (by omega) sE_o kcX3 rfl hl.1 (Nat.le_of_ble_eq_true rfl) dX3_ofPond_2 ⟨Nat.le_of_ble_eq_true rfl, Nat.le_of_ble_eq_true rfl⟩) hw hA (fun H locs hw => ?_)
  refine lv_iload_n hx hb dX3_ofPond_5 rfl (lv_at hl 2 rfl) ?_
  refine lv_if_lt (tgt := 15) hx hb dX3_ofPond_6 (by decide) (fun c1 => absurd c1 h1) (fun c1 => ?_)
  refine lv_iload_n hx hb dX3_ofPond_9 rfl (lv_at hl 2 rfl) ?_
  refine lv_bipush (v := 10) hx hb dX3_ofPond_10 (by decide) ?_
  refine lv_icmp_le (tgt := 25) hx hb dX3_ofPond_12 (by decide) (fun c2 => absurd c2 h2) (fun c2 => ?_)
  exact sx_throwS (cls := xIA) (text := "what is not 0 to 10") (ik := 30) (is := 221) (ic := 34) (rest := []) hx hb hst hown (by decide +kernel) hts mX3_ofPond_0_x3 mX3_ofPond_1_x3 (by decide +kernel) gX3_ofPond_x3_x sXB_IA sX_okIA hX hw (hl.1.trans hml.symm) dX3_ofPond_15 dX3_ofPond_18 dX3_ofPond_19 dX3_ofPond_21 dX3_ofPond_24 hnx (Nat.le_of_ble_eq_true rfl) (Nat.le_of_ble_eq_true rfl) (Nat.le_of_ble_eq_true rfl) (Nat.le_of_ble_eq_true rfl) hlocks (Nat.le_refl _) (Nat.le_refl _)
theorem mX3_tide_0_x1 : (Cond.classLink RX3 30 xIA) ∈ wsX3_tide := by decide +kernel
theorem mX3_tide_1_x1 : (Cond.initialized xIA) ∈ wsX3_tide := by decide +kernel
theorem gX3_tide_x1_x : ∀ w ∈ (vx_atS RX3 34 xIA xNm).filter goodWord, w ∈ wsX3_tide := by decide +kernel
set_option maxHeartbeats 4000000 in
set_option maxRecDepth 100000 in
theorem zX3_tide_x1 (l : Launch) (hst : l.stackTraces = false) (D : va_G) (a : Nat → Nat) (cs : Nat → ClassId) (σ : sS) (x : Int32) (h1 : x < 0) : sMx l yX3_tide wsX3_tide ({ frames := 6, cells := 1, slots := 6, locals := 84 }) D a cs [.ref (a 0), .int x] σ xIA := by
  intro sz
  refine vx_ofW (cc := cX3_tide) (maxL := 2) (ret := (some .int)) (by decide) rfl ?_
  intro p e s m args below meth c s₁ B hml hnx hv
  obtain ⟨rfl, ⟨hsz, hv2⟩, hX⟩ := hv
  have hv3 : sB D a cs σ sz s := ⟨hsz, hv2⟩
  subst hsz
  have hw := sH_start hv3
  obtain ⟨-, -, hK, -, hN⟩ := hv3
  have hx := B.exec
  have hb := B.bytes
  have hts := atoms_spec (ws := wsX3_tide) B.pre
  have hown : s.vm.findClass RX3 = some m.cls := findClass_of_methodNamed B.named
  have hlocks := B.notSynchronized
  have hA : ∀ q : Nat, s.heap.size ≤ q → sA a s.heap.size q := sA_new
  have hl := lv_entry ([.ref (a 0), .int x]) (n := 2) (Nat.le_of_ble_eq_true rfl)
  rw [lg_entry_eq]
  generalize (lg_sl ([.ref (a 0), .int x]) ++ List.replicate (2 - (lg_sl ([.ref (a 0), .int x])).length) Slot.unset).toArray = ls at hl ⊢
  have hl : lv_has ls 2 [(0, .ref (a 0)), (1, .int x)] := hl
  refine lv_iload_n hx hb dX3_tide_0 rfl (lv_at hl 1 rfl) ?_
  refine lv_if_lt (tgt := 11) hx hb dX3_tide_1 (by decide) (fun c1 => ?_) (fun c1 => absurd h1 c1)
  exact sx_throwS (cls := xIA) (text := "day is not 0 to 9999") (ik := 30) (is := 229) (ic := 34) (rest := []) hx hb hst hown (by decide +kernel) hts mX3_tide_0_x1 mX3_tide_1_x1 (by decide +kernel) gX3_tide_x1_x sXB_IA sX_okIA hX hw (hl.1.trans hml.symm) dX3_tide_11 dX3_tide_14 dX3_tide_15 dX3_tide_17 dX3_tide_20 hnx (Nat.le_of_ble_eq_true rfl) (Nat.le_of_ble_eq_true rfl) (Nat.le_of_ble_eq_true rfl) (Nat.le_of_ble_eq_true rfl) hlocks (Nat.le_refl _) (Nat.le_refl _)
theorem mX3_tide_0_x2 : (Cond.classLink RX3 30 xIA) ∈ wsX3_tide := by decide +kernel
theorem mX3_tide_1_x2 : (Cond.initialized xIA) ∈ wsX3_tide := by decide +kernel
theorem gX3_tide_x2_x : ∀ w ∈ (vx_atS RX3 34 xIA xNm).filter goodWord, w ∈ wsX3_tide := by decide +kernel
set_option maxHeartbeats 4000000 in
set_option maxRecDepth 100000 in
theorem zX3_tide_x2 (l : Launch) (hst : l.stackTraces = false) (D : va_G) (a : Nat → Nat) (cs : Nat → ClassId) (σ : sS) (x : Int32) (h1 : ¬ x < 0) (h2 : ¬ x ≤ 9999) : sMx l yX3_tide wsX3_tide ({ frames := 6, cells := 1, slots := 6, locals := 84 }) D a cs [.ref (a 0), .int x] σ xIA := by
  intro sz
  refine vx_ofW (cc := cX3_tide) (maxL := 2) (ret := (some .int)) (by decide) rfl ?_
  intro p e s m args below meth c s₁ B hml hnx hv
  obtain ⟨rfl, ⟨hsz, hv2⟩, hX⟩ := hv
  have hv3 : sB D a cs σ sz s := ⟨hsz, hv2⟩
  subst hsz
  have hw := sH_start hv3
  obtain ⟨-, -, hK, -, hN⟩ := hv3
  have hx := B.exec
  have hb := B.bytes
  have hts := atoms_spec (ws := wsX3_tide) B.pre
  have hown : s.vm.findClass RX3 = some m.cls := findClass_of_methodNamed B.named
  have hlocks := B.notSynchronized
  have hA : ∀ q : Nat, s.heap.size ≤ q → sA a s.heap.size q := sA_new
  have hl := lv_entry ([.ref (a 0), .int x]) (n := 2) (Nat.le_of_ble_eq_true rfl)
  rw [lg_entry_eq]
  generalize (lg_sl ([.ref (a 0), .int x]) ++ List.replicate (2 - (lg_sl ([.ref (a 0), .int x])).length) Slot.unset).toArray = ls at hl ⊢
  have hl : lv_has ls 2 [(0, .ref (a 0)), (1, .int x)] := hl
  refine lv_iload_n hx hb dX3_tide_0 rfl (lv_at hl 1 rfl) ?_
  refine lv_if_lt (tgt := 11) hx hb dX3_tide_1 (by decide) (fun c1 => absurd c1 h1) (fun c1 => ?_)
  refine lv_iload_n hx hb dX3_tide_4 rfl (lv_at hl 1 rfl) ?_
  refine lv_sipush (v := 9999) hx hb dX3_tide_5 (by decide) ?_
  refine lv_icmp_le (tgt := 21) hx hb dX3_tide_8 (by decide) (fun c2 => absurd c2 h2) (fun c2 => ?_)
  exact sx_throwS (cls := xIA) (text := "day is not 0 to 9999") (ik := 30) (is := 229) (ic := 34) (rest := []) hx hb hst hown (by decide +kernel) hts mX3_tide_0_x2 mX3_tide_1_x2 (by decide +kernel) gX3_tide_x2_x sXB_IA sX_okIA hX hw (hl.1.trans hml.symm) dX3_tide_11 dX3_tide_14 dX3_tide_15 dX3_tide_17 dX3_tide_20 hnx (Nat.le_of_ble_eq_true rfl) (Nat.le_of_ble_eq_true rfl) (Nat.le_of_ble_eq_true rfl) (Nat.le_of_ble_eq_true rfl) hlocks (Nat.le_refl _) (Nat.le_refl _)
theorem mX3_many_0_x1 : (Cond.classLink RX3 30 xIA) ∈ wsX3_many := by decide +kernel
theorem mX3_many_1_x1 : (Cond.initialized xIA) ∈ wsX3_many := by decide +kernel
theorem gX3_many_x1_x : ∀ w ∈ (vx_atS RX3 34 xIA xNm).filter goodWord, w ∈ wsX3_many := by decide +kernel
set_option maxHeartbeats 4000000 in
set_option maxRecDepth 100000 in
theorem zX3_many_x1 (l : Launch) (hst : l.stackTraces = false) (D : va_G) (a : Nat → Nat) (cs : Nat → ClassId) (σ : sS) (x : Int32) (h1 : x.toInt < 0 ∨ 17 < x.toInt) : sMx l yX3_many wsX3_many ({ frames := 6, cells := 1, slots := 6, locals := 84 }) D a cs [.ref (a 0), .int x] σ xIA := by
  intro sz
  refine vx_ofW (cc := cX3_many) (maxL := 2) (ret := (some .int)) (by decide) rfl ?_
  intro p e s m args below meth c s₁ B hml hnx hv
  obtain ⟨rfl, ⟨hsz, hv2⟩, hX⟩ := hv
  have hv3 : sB D a cs σ sz s := ⟨hsz, hv2⟩
  subst hsz
  have hw := sH_start hv3
  obtain ⟨-, -, hK, -, hN⟩ := hv3
  have hx := B.exec
  have hb := B.bytes
  have hts := atoms_spec (ws := wsX3_many) B.pre
  have hown : s.vm.findClass RX3 = some m.cls := findClass_of_methodNamed B.named
  have hlocks := B.notSynchronized
  have hA : ∀ q : Nat, s.heap.size ≤ q → sA a s.heap.size q := sA_new
  have hl := lv_entry ([.ref (a 0), .int x]) (n := 2) (Nat.le_of_ble_eq_true rfl)
  rw [lg_entry_eq]
  generalize (lg_sl ([.ref (a 0), .int x]) ++ List.replicate (2 - (lg_sl ([.ref (a 0), .int x])).length) Slot.unset).toArray = ls at hl ⊢
  have hl : lv_has ls 2 [(0, .ref (a 0)), (1, .int x)] := hl
  refine lv_iload_n hx hb dX3_many_0 rfl (lv_at hl 1 rfl) ?_
  refine lv_tableOut (tgt := 214) hx hb dX3_many_1 h1 (by decide) ?_
  exact sx_throwS (cls := xIA) (text := "what is not 0 to 17") (ik := 30) (is := 252) (ic := 34) (rest := []) hx hb hst hown (by decide +kernel) hts mX3_many_0_x1 mX3_many_1_x1 (by decide +kernel) gX3_many_x1_x sXB_IA sX_okIA hX hw (hl.1.trans hml.symm) dX3_many_214 dX3_many_217 dX3_many_218 dX3_many_220 dX3_many_223 hnx (Nat.le_of_ble_eq_true rfl) (Nat.le_of_ble_eq_true rfl) (Nat.le_of_ble_eq_true rfl) (Nat.le_of_ble_eq_true rfl) hlocks (Nat.le_refl _) (Nat.le_refl _)
set_option maxHeartbeats 4000000 in
set_option maxRecDepth 100000 in
theorem zX3_crustIn_x1 (l : Launch) (hst : l.stackTraces = false) (D : va_G) (a : Nat → Nat) (cs : Nat → ClassId) (σ : sS) (x0 : Int32) (hp : x0 < 5 ∨ ¬ x0 < 5 ∧ ¬ x0 < 8) (y z : Int32) : sMx l yX3_crustIn wsX3_crustIn ({ frames := 7, cells := 1, slots := 6, locals := 105 }) D a cs [.ref (a 0), .int x0, .int y, .int z] σ xIO := by
  intro sz
  refine vx_ofW (cc := cX3_crustIn) (maxL := 5) (ret := (some .int)) (by decide) rfl ?_
  intro p e s m args below meth c s₁ B hml hnx hv
  obtain ⟨rfl, ⟨hsz, hv2⟩, hX⟩ := hv
  have hv3 : sB D a cs σ sz s := ⟨hsz, hv2⟩
  subst hsz
  have hw := sH_start hv3
  obtain ⟨-, -, hK, -, hN⟩ := hv3
  have hx := B.exec
  have hb := B.bytes
  have hts := atoms_spec (ws := wsX3_crustIn) B.pre
  have hown : s.vm.findClass RX3 = some m.cls := findClass_of_methodNamed B.named
  have hlocks := B.notSynchronized
  have hA : ∀ q : Nat, s.heap.size ≤ q → sA a s.heap.size q := sA_new
  have hl := lv_entry ([.ref (a 0), .int x0, .int y, .int z]) (n := 5) (Nat.le_of_ble_eq_true rfl)
  rw [lg_entry_eq]
  generalize (lg_sl ([.ref (a 0), .int x0, .int y, .int z]) ++ List.replicate (5 - (lg_sl ([.ref (a 0), .int x0, .int y, .int z])).length) Slot.unset).toArray = ls at hl ⊢
  have hl : lv_has ls 5 [(0, .ref (a 0)), (1, .int x0), (2, .int y), (3, .int z)] := hl
  refine lv_aload_n hx hb dX3_crustIn_0 rfl (lv_at hl 0 rfl) ?_
  refine lv_iload_n hx hb dX3_crustIn_1 rfl (lv_at hl 1 rfl) ?_
  exact sx_pass (As := [.int x0]) (rest := []) ⟨hx, hb, hml, hown, hts⟩ (zX3_needPan_x l hst D a cs _ x0 hp) (cwV 1 hts gX3_crustIn_X3_needPan rfl rfl rfl (by decide +kernel) ⟨Nat.le_of_ble_eq_true rfl, Nat.le_of_ble_eq_true rfl⟩) hK hN hX hw rfl hl.1 (Nat.le_of_ble_eq_true rfl) dX3_crustIn_2 ⟨Nat.le_of_ble_eq_true rfl, Nat.le_of_ble_eq_true rfl⟩ hnx hlocks (Nat.le_refl _) (Nat.le_refl _)
set_option maxHeartbeats 4000000 in
set_option maxRecDepth 100000 in
theorem zX3_crustIn_x2 (l : Launch) (hst : l.stackTraces = false) (D : va_G) (a : Nat → Nat) (cs : Nat → ClassId) (σ : sS) (q : Nat) (hq : q < 3) (x y : Int32) (hp : x < 0 ∨ ¬ x < 0 ∧ ¬ x ≤ 9 ∨ ¬ x < 0 ∧ x ≤ 9 ∧ y < 0 ∨ ¬ x < 0 ∧ x ≤ 9 ∧ ¬ y < 0 ∧ ¬ y ≤ 9)  : sMx l yX3_crustIn wsX3_crustIn ({ frames := 7, cells := 1, slots := 6, locals := 106 }) D a cs [.ref (a 0), .int (nI (5 + q)), .int x, .int y] σ xIA := by
  intro sz
  refine vx_ofW (cc := cX3_crustIn) (maxL := 5) (ret := (some .int)) (by decide) rfl ?_
  intro p e s m args below meth c s₁ B hml hnx hv
  obtain ⟨rfl, ⟨hsz, hv2⟩, hX⟩ := hv
  have hv3 : sB D a cs σ sz s := ⟨hsz, hv2⟩
  subst hsz
  have hw := sH_start hv3
  obtain ⟨-, -, hK, -, hN⟩ := hv3
  have hx := B.exec
  have hb := B.bytes
  have hts := atoms_spec (ws := wsX3_crustIn) B.pre
  have hown : s.vm.findClass RX3 = some m.cls := findClass_of_methodNamed B.named
  have hlocks := B.notSynchronized
  have hA : ∀ q : Nat, s.heap.size ≤ q → sA a s.heap.size q := sA_new
  have hl := lv_entry ([.ref (a 0), .int (nI (5 + q)), .int x, .int y]) (n := 5) (Nat.le_of_ble_eq_true rfl)
  rw [lg_entry_eq]
  generalize (lg_sl ([.ref (a 0), .int (nI (5 + q)), .int x, .int y]) ++ List.replicate (5 - (lg_sl ([.ref (a 0), .int (nI (5 + q)), .int x, .int y])).length) Slot.unset).toArray = ls at hl ⊢
  have hl : lv_has ls 5 [(0, .ref (a 0)), (1, .int (nI (5 + q))), (2, .int x), (3, .int y)] := hl
  refine lv_aload_n hx hb dX3_crustIn_0 rfl (lv_at hl 0 rfl) ?_
  refine lv_iload_n hx hb dX3_crustIn_1 rfl (lv_at hl 1 rfl) ?_
  refine sc_v (sr_V (i := 0) (As := [.int (nI (5 + q))]) (rest := []) ⟨hx, hb, hml, hown, hts⟩ (zX3_needPan l D a cs _ q (by omega) _) (cwV 1 hts gX3_crustIn_X3_needPan rfl rfl rfl (by decide +kernel) ⟨Nat.le_of_ble_eq_true rfl, Nat.le_of_ble_eq_true rfl⟩) hK hN hw (by omega) sE_o kcX3 rfl hl.1 (Nat.le_of_ble_eq_true rfl) dX3_crustIn_2 ⟨Nat.le_of_ble_eq_true rfl, Nat.le_of_ble_eq_true rfl⟩) hw hA (fun H locs hw => ?_)
  refine lv_aload_n hx hb dX3_crustIn_5 rfl (lv_at hl 0 rfl) ?_
  refine lv_iload_n hx hb dX3_crustIn_6 rfl (lv_at hl 2 rfl) ?_
  refine lv_iload_n hx hb dX3_crustIn_7 rfl (lv_at hl 3 rfl) ?_
  exact sx_pass (As := [.int x, .int y]) (rest := []) ⟨hx, hb, hml, hown, hts⟩ (zX3_needWeather_x l hst D a cs _ x y hp) (cwV 2 hts gX3_crustIn_X3_needWeather rfl rfl rfl (by decide +kernel) ⟨Nat.le_of_ble_eq_true rfl, Nat.le_of_ble_eq_true rfl⟩) hK hN hX hw rfl hl.1 (Nat.le_of_ble_eq_true rfl) dX3_crustIn_8 ⟨Nat.le_of_ble_eq_true rfl, Nat.le_of_ble_eq_true rfl⟩ hnx hlocks (Nat.le_refl _) (Nat.le_refl _)
theorem mX3_bestGates_0_x1 : (Cond.classLink RX3 30 xIA) ∈ wsX3_bestGates := by decide +kernel
theorem mX3_bestGates_1_x1 : (Cond.initialized xIA) ∈ wsX3_bestGates := by decide +kernel
theorem gX3_bestGates_x1_x : ∀ w ∈ (vx_atS RX3 34 xIA xNm).filter goodWord, w ∈ wsX3_bestGates := by decide +kernel
set_option maxHeartbeats 4000000 in
set_option maxRecDepth 100000 in
theorem zX3_bestGates_x1 (l : Launch) (hst : l.stackTraces = false) (D : va_G) (a : Nat → Nat) (cs : Nat → ClassId) (σ : sS) (n x y : Int32) (h1 : n < 1) : sMx l yX3_bestGates wsX3_bestGates ({ frames := 6, cells := 1, slots := 6, locals := 84 }) D a cs [.ref (a 0), .int n, .int x, .int y] σ xIA := by
  intro sz
  refine vx_ofW (cc := cX3_bestGates) (maxL := 8) (ret := (some .int)) (by decide) rfl ?_
  intro p e s m args below meth c s₁ B hml hnx hv
  obtain ⟨rfl, ⟨hsz, hv2⟩, hX⟩ := hv
  have hv3 : sB D a cs σ sz s := ⟨hsz, hv2⟩
  subst hsz
  have hw := sH_start hv3
  obtain ⟨-, -, hK, -, hN⟩ := hv3
  have hx := B.exec
  have hb := B.bytes
  have hts := atoms_spec (ws := wsX3_bestGates) B.pre
  have hown : s.vm.findClass RX3 = some m.cls := findClass_of_methodNamed B.named
  have hlocks := B.notSynchronized
  have hA : ∀ q : Nat, s.heap.size ≤ q → sA a s.heap.size q := sA_new
  have hl := lv_entry ([.ref (a 0), .int n, .int x, .int y]) (n := 8) (Nat.le_of_ble_eq_true rfl)
  rw [lg_entry_eq]
  generalize (lg_sl ([.ref (a 0), .int n, .int x, .int y]) ++ List.replicate (8 - (lg_sl ([.ref (a 0), .int n, .int x, .int y])).length) Slot.unset).toArray = ls at hl ⊢
  have hl : lv_has ls 8 [(0, .ref (a 0)), (1, .int n), (2, .int x), (3, .int y)] := hl
  refine lv_iload_n hx hb dX3_bestGates_0 rfl (lv_at hl 1 rfl) ?_
  refine lv_iconst (v := 1) hx hb dX3_bestGates_1 (by decide) ?_
  refine lv_icmp_lt (tgt := 11) hx hb dX3_bestGates_2 (by decide) (fun c1 => ?_) (fun c1 => absurd h1 c1)
  exact sx_throwW (cls := xIA) (text := "days is not 1 to 9") (ik := 30) (is := 261) (ic := 34) (rest := []) hx hb hst hown (by decide +kernel) hts mX3_bestGates_0_x1 mX3_bestGates_1_x1 (by decide +kernel) gX3_bestGates_x1_x sXB_IA sX_okIA hX hw (hl.1.trans hml.symm) dX3_bestGates_11 dX3_bestGates_14 dX3_bestGates_15 dX3_bestGates_18 dX3_bestGates_21 hnx (Nat.le_of_ble_eq_true rfl) (Nat.le_of_ble_eq_true rfl) (Nat.le_of_ble_eq_true rfl) (Nat.le_of_ble_eq_true rfl) hlocks (Nat.le_refl _) (Nat.le_refl _)
theorem mX3_bestGates_0_x2 : (Cond.classLink RX3 30 xIA) ∈ wsX3_bestGates := by decide +kernel
theorem mX3_bestGates_1_x2 : (Cond.initialized xIA) ∈ wsX3_bestGates := by decide +kernel
theorem gX3_bestGates_x2_x : ∀ w ∈ (vx_atS RX3 34 xIA xNm).filter goodWord, w ∈ wsX3_bestGates := by decide +kernel
set_option maxHeartbeats 4000000 in
set_option maxRecDepth 100000 in
theorem zX3_bestGates_x2 (l : Launch) (hst : l.stackTraces = false) (D : va_G) (a : Nat → Nat) (cs : Nat → ClassId) (σ : sS) (n x y : Int32) (h1 : ¬ n < 1) (h2 : ¬ n ≤ 9) : sMx l yX3_bestGates wsX3_bestGates ({ frames := 6, cells := 1, slots := 6, locals := 84 }) D a cs [.ref (a 0), .int n, .int x, .int y] σ xIA := by
  intro sz
  refine vx_ofW (cc := cX3_bestGates) (maxL := 8) (ret := (some .int)) (by decide) rfl ?_
  intro p e s m args below meth c s₁ B hml hnx hv
  obtain ⟨rfl, ⟨hsz, hv2⟩, hX⟩ := hv
  have hv3 : sB D a cs σ sz s := ⟨hsz, hv2⟩
  subst hsz
  have hw := sH_start hv3
  obtain ⟨-, -, hK, -, hN⟩ := hv3
  have hx := B.exec
  have hb := B.bytes
  have hts := atoms_spec (ws := wsX3_bestGates) B.pre
  have hown : s.vm.findClass RX3 = some m.cls := findClass_of_methodNamed B.named
  have hlocks := B.notSynchronized
  have hA : ∀ q : Nat, s.heap.size ≤ q → sA a s.heap.size q := sA_new
  have hl := lv_entry ([.ref (a 0), .int n, .int x, .int y]) (n := 8) (Nat.le_of_ble_eq_true rfl)
  rw [lg_entry_eq]
  generalize (lg_sl ([.ref (a 0), .int n, .int x, .int y]) ++ List.replicate (8 - (lg_sl ([.ref (a 0), .int n, .int x, .int y])).length) Slot.unset).toArray = ls at hl ⊢
  have hl : lv_has ls 8 [(0, .ref (a 0)), (1, .int n), (2, .int x), (3, .int y)] := hl
  refine lv_iload_n hx hb dX3_bestGates_0 rfl (lv_at hl 1 rfl) ?_
  refine lv_iconst (v := 1) hx hb dX3_bestGates_1 (by decide) ?_
  refine lv_icmp_lt (tgt := 11) hx hb dX3_bestGates_2 (by decide) (fun c1 => absurd c1 h1) (fun c1 => ?_)
  refine lv_iload_n hx hb dX3_bestGates_5 rfl (lv_at hl 1 rfl) ?_
  refine lv_bipush (v := 9) hx hb dX3_bestGates_6 (by decide) ?_
  refine lv_icmp_le (tgt := 22) hx hb dX3_bestGates_8 (by decide) (fun c2 => absurd c2 h2) (fun c2 => ?_)
  exact sx_throwW (cls := xIA) (text := "days is not 1 to 9") (ik := 30) (is := 261) (ic := 34) (rest := []) hx hb hst hown (by decide +kernel) hts mX3_bestGates_0_x2 mX3_bestGates_1_x2 (by decide +kernel) gX3_bestGates_x2_x sXB_IA sX_okIA hX hw (hl.1.trans hml.symm) dX3_bestGates_11 dX3_bestGates_14 dX3_bestGates_15 dX3_bestGates_18 dX3_bestGates_21 hnx (Nat.le_of_ble_eq_true rfl) (Nat.le_of_ble_eq_true rfl) (Nat.le_of_ble_eq_true rfl) (Nat.le_of_ble_eq_true rfl) hlocks (Nat.le_refl _) (Nat.le_refl _)
set_option maxHeartbeats 4000000 in
set_option maxRecDepth 100000 in
theorem zX3_bestGates_x3 (l : Launch) (hst : l.stackTraces = false) (D : va_G) (a : Nat → Nat) (cs : Nat → ClassId) (σ : sS) (n : Int32) (h1 : ¬ n < 1) (h2 : n ≤ 9) (x y : Int32) (hp : x < 0 ∨ ¬ x < 0 ∧ ¬ x ≤ 9 ∨ ¬ x < 0 ∧ x ≤ 9 ∧ y < 0 ∨ ¬ x < 0 ∧ x ≤ 9 ∧ ¬ y < 0 ∧ ¬ y ≤ 9)  : sMx l yX3_bestGates wsX3_bestGates ({ frames := 7, cells := 1, slots := 6, locals := 106 }) D a cs [.ref (a 0), .int n, .int x, .int y] σ xIA := by
  intro sz
  refine vx_ofW (cc := cX3_bestGates) (maxL := 8) (ret := (some .int)) (by decide) rfl ?_
  intro p e s m args below meth c s₁ B hml hnx hv
  obtain ⟨rfl, ⟨hsz, hv2⟩, hX⟩ := hv
  have hv3 : sB D a cs σ sz s := ⟨hsz, hv2⟩
  subst hsz
  have hw := sH_start hv3
  obtain ⟨-, -, hK, -, hN⟩ := hv3
  have hx := B.exec
  have hb := B.bytes
  have hts := atoms_spec (ws := wsX3_bestGates) B.pre
  have hown : s.vm.findClass RX3 = some m.cls := findClass_of_methodNamed B.named
  have hlocks := B.notSynchronized
  have hA : ∀ q : Nat, s.heap.size ≤ q → sA a s.heap.size q := sA_new
  have hl := lv_entry ([.ref (a 0), .int n, .int x, .int y]) (n := 8) (Nat.le_of_ble_eq_true rfl)
  rw [lg_entry_eq]
  generalize (lg_sl ([.ref (a 0), .int n, .int x, .int y]) ++ List.replicate (8 - (lg_sl ([.ref (a 0), .int n, .int x, .int y])).length) Slot.unset).toArray = ls at hl ⊢
  have hl : lv_has ls 8 [(0, .ref (a 0)), (1, .int n), (2, .int x), (3, .int y)] := hl
  refine lv_iload_n hx hb dX3_bestGates_0 rfl (lv_at hl 1 rfl) ?_
  refine lv_iconst (v := 1) hx hb dX3_bestGates_1 (by decide) ?_
  refine lv_icmp_lt (tgt := 11) hx hb dX3_bestGates_2 (by decide) (fun c1 => absurd c1 h1) (fun c1 => ?_)
  refine lv_iload_n hx hb dX3_bestGates_5 rfl (lv_at hl 1 rfl) ?_
  refine lv_bipush (v := 9) hx hb dX3_bestGates_6 (by decide) ?_
  refine lv_icmp_le (tgt := 22) hx hb dX3_bestGates_8 (by decide) (fun c2 => ?_) (fun c2 => absurd h2 c2)
  refine lv_aload_n hx hb dX3_bestGates_22 rfl (lv_at hl 0 rfl) ?_
  refine lv_iload_n hx hb dX3_bestGates_23 rfl (lv_at hl 2 rfl) ?_
  refine lv_iload_n hx hb dX3_bestGates_24 rfl (lv_at hl 3 rfl) ?_
  exact sx_pass (As := [.int x, .int y]) (rest := []) ⟨hx, hb, hml, hown, hts⟩ (zX3_needWeather_x l hst D a cs _ x y hp) (cwV 2 hts gX3_bestGates_X3_needWeather rfl rfl rfl (by decide +kernel) ⟨Nat.le_of_ble_eq_true rfl, Nat.le_of_ble_eq_true rfl⟩) hK hN hX hw rfl hl.1 (Nat.le_of_ble_eq_true rfl) dX3_bestGates_25 ⟨Nat.le_of_ble_eq_true rfl, Nat.le_of_ble_eq_true rfl⟩ hnx hlocks (Nat.le_refl _) (Nat.le_refl _)
set_option maxHeartbeats 4000000 in
set_option maxRecDepth 100000 in
theorem zX3_wouldBe_x1 (l : Launch) (hst : l.stackTraces = false) (D : va_G) (a : Nat → Nat) (cs : Nat → ClassId) (σ : sS) (x0 : Int32) (hp : x0 < 5 ∨ ¬ x0 < 5 ∧ ¬ x0 < 8) (y z : Int32) : sMx l yX3_wouldBe wsX3_wouldBe ({ frames := 7, cells := 1, slots := 6, locals := 105 }) D a cs [.ref (a 0), .int x0, .int y, .int z] σ xIO := by
  intro sz
  refine vx_ofW (cc := cX3_wouldBe) (maxL := 9) (ret := (some .int)) (by decide) rfl ?_
  intro p e s m args below meth c s₁ B hml hnx hv
  obtain ⟨rfl, ⟨hsz, hv2⟩, hX⟩ := hv
  have hv3 : sB D a cs σ sz s := ⟨hsz, hv2⟩
  subst hsz
  have hw := sH_start hv3
  obtain ⟨-, -, hK, -, hN⟩ := hv3
  have hx := B.exec
  have hb := B.bytes
  have hts := atoms_spec (ws := wsX3_wouldBe) B.pre
  have hown : s.vm.findClass RX3 = some m.cls := findClass_of_methodNamed B.named
  have hlocks := B.notSynchronized
  have hA : ∀ q : Nat, s.heap.size ≤ q → sA a s.heap.size q := sA_new
  have hl := lv_entry ([.ref (a 0), .int x0, .int y, .int z]) (n := 9) (Nat.le_of_ble_eq_true rfl)
  rw [lg_entry_eq]
  generalize (lg_sl ([.ref (a 0), .int x0, .int y, .int z]) ++ List.replicate (9 - (lg_sl ([.ref (a 0), .int x0, .int y, .int z])).length) Slot.unset).toArray = ls at hl ⊢
  have hl : lv_has ls 9 [(0, .ref (a 0)), (1, .int x0), (2, .int y), (3, .int z)] := hl
  refine lv_aload_n hx hb dX3_wouldBe_0 rfl (lv_at hl 0 rfl) ?_
  refine lv_iload_n hx hb dX3_wouldBe_1 rfl (lv_at hl 1 rfl) ?_
  exact sx_pass (As := [.int x0]) (rest := []) ⟨hx, hb, hml, hown, hts⟩ (zX3_needPan_x l hst D a cs _ x0 hp) (cwV 1 hts gX3_wouldBe_X3_needPan rfl rfl rfl (by decide +kernel) ⟨Nat.le_of_ble_eq_true rfl, Nat.le_of_ble_eq_true rfl⟩) hK hN hX hw rfl hl.1 (Nat.le_of_ble_eq_true rfl) dX3_wouldBe_2 ⟨Nat.le_of_ble_eq_true rfl, Nat.le_of_ble_eq_true rfl⟩ hnx hlocks (Nat.le_refl _) (Nat.le_refl _)
set_option maxHeartbeats 4000000 in
set_option maxRecDepth 100000 in
theorem zX3_wouldBe_x2 (l : Launch) (hst : l.stackTraces = false) (D : va_G) (a : Nat → Nat) (cs : Nat → ClassId) (σ : sS) (q : Nat) (hq : q < 3) (x0 : Int32) (hp : x0 < 0 ∨ ¬ x0 < 0 ∧ ¬ x0 < σ 0 3) (y : Int32) : sMx l yX3_wouldBe wsX3_wouldBe ({ frames := 7, cells := 1, slots := 6, locals := 105 }) D a cs [.ref (a 0), .int (nI (5 + q)), .int y, .int x0] σ xIO := by
  intro sz
  refine vx_ofW (cc := cX3_wouldBe) (maxL := 9) (ret := (some .int)) (by decide) rfl ?_
  intro p e s m args below meth c s₁ B hml hnx hv
  obtain ⟨rfl, ⟨hsz, hv2⟩, hX⟩ := hv
  have hv3 : sB D a cs σ sz s := ⟨hsz, hv2⟩
  subst hsz
  have hw := sH_start hv3
  obtain ⟨-, -, hK, -, hN⟩ := hv3
  have hx := B.exec
  have hb := B.bytes
  have hts := atoms_spec (ws := wsX3_wouldBe) B.pre
  have hown : s.vm.findClass RX3 = some m.cls := findClass_of_methodNamed B.named
  have hlocks := B.notSynchronized
  have hA : ∀ q : Nat, s.heap.size ≤ q → sA a s.heap.size q := sA_new
  have hl := lv_entry ([.ref (a 0), .int (nI (5 + q)), .int y, .int x0]) (n := 9) (Nat.le_of_ble_eq_true rfl)
  rw [lg_entry_eq]
  generalize (lg_sl ([.ref (a 0), .int (nI (5 + q)), .int y, .int x0]) ++ List.replicate (9 - (lg_sl ([.ref (a 0), .int (nI (5 + q)), .int y, .int x0])).length) Slot.unset).toArray = ls at hl ⊢
  have hl : lv_has ls 9 [(0, .ref (a 0)), (1, .int (nI (5 + q))), (2, .int y), (3, .int x0)] := hl
  refine lv_aload_n hx hb dX3_wouldBe_0 rfl (lv_at hl 0 rfl) ?_
  refine lv_iload_n hx hb dX3_wouldBe_1 rfl (lv_at hl 1 rfl) ?_
  refine sc_v (sr_V (i := 0) (As := [.int (nI (5 + q))]) (rest := []) ⟨hx, hb, hml, hown, hts⟩ (zX3_needPan l D a cs _ q (by omega) _) (cwV 1 hts gX3_wouldBe_X3_needPan rfl rfl rfl (by decide +kernel) ⟨Nat.le_of_ble_eq_true rfl, Nat.le_of_ble_eq_true rfl⟩) hK hN hw (by omega) sE_o kcX3 rfl hl.1 (Nat.le_of_ble_eq_true rfl) dX3_wouldBe_2 ⟨Nat.le_of_ble_eq_true rfl, Nat.le_of_ble_eq_true rfl⟩) hw hA (fun H locs hw => ?_)
  refine lv_aload_n hx hb dX3_wouldBe_5 rfl (lv_at hl 0 rfl) ?_
  refine lv_iload_n hx hb dX3_wouldBe_6 rfl (lv_at hl 3 rfl) ?_
  exact sx_pass (As := [.int x0]) (rest := []) ⟨hx, hb, hml, hown, hts⟩ (zX3_needFamily_x l hst D a cs _ x0 hp) (cwV 1 hts gX3_wouldBe_X3_needFamily rfl rfl rfl (by decide +kernel) ⟨Nat.le_of_ble_eq_true rfl, Nat.le_of_ble_eq_true rfl⟩) hK hN hX hw rfl hl.1 (Nat.le_of_ble_eq_true rfl) dX3_wouldBe_7 ⟨Nat.le_of_ble_eq_true rfl, Nat.le_of_ble_eq_true rfl⟩ hnx hlocks (Nat.le_refl _) (Nat.le_refl _)
theorem mX3_tideOn_0_x1 : (Cond.classLink RX3 30 xIA) ∈ wsX3_tideOn := by decide +kernel
theorem mX3_tideOn_1_x1 : (Cond.initialized xIA) ∈ wsX3_tideOn := by decide +kernel
theorem gX3_tideOn_x1_x : ∀ w ∈ (vx_atS RX3 34 xIA xNm).filter goodWord, w ∈ wsX3_tideOn := by decide +kernel
set_option maxHeartbeats 4000000 in
set_option maxRecDepth 100000 in
theorem zX3_tideOn_x1 (l : Launch) (hst : l.stackTraces = false) (D : va_G) (a : Nat → Nat) (cs : Nat → ClassId) (σ : sS) (x y : Int32) (h1 : x < 0) : sMx l yX3_tideOn wsX3_tideOn ({ frames := 6, cells := 1, slots := 6, locals := 84 }) D a cs [.ref (a 0), .int x, .int y] σ xIA := by
  intro sz
  refine vx_ofW (cc := cX3_tideOn) (maxL := 5) (ret := (some .int)) (by decide) rfl ?_
  intro p e s m args below meth c s₁ B hml hnx hv
  obtain ⟨rfl, ⟨hsz, hv2⟩, hX⟩ := hv
  have hv3 : sB D a cs σ sz s := ⟨hsz, hv2⟩
  subst hsz
  have hw := sH_start hv3
  obtain ⟨-, -, hK, -, hN⟩ := hv3
  have hx := B.exec
  have hb := B.bytes
  have hts := atoms_spec (ws := wsX3_tideOn) B.pre
  have hown : s.vm.findClass RX3 = some m.cls := findClass_of_methodNamed B.named
  have hlocks := B.notSynchronized
  have hA : ∀ q : Nat, s.heap.size ≤ q → sA a s.heap.size q := sA_new
  have hl := lv_entry ([.ref (a 0), .int x, .int y]) (n := 5) (Nat.le_of_ble_eq_true rfl)
  rw [lg_entry_eq]
  generalize (lg_sl ([.ref (a 0), .int x, .int y]) ++ List.replicate (5 - (lg_sl ([.ref (a 0), .int x, .int y])).length) Slot.unset).toArray = ls at hl ⊢
  have hl : lv_has ls 5 [(0, .ref (a 0)), (1, .int x), (2, .int y)] := hl
  refine lv_iload_n hx hb dX3_tideOn_0 rfl (lv_at hl 1 rfl) ?_
  refine lv_if_lt (tgt := 10) hx hb dX3_tideOn_1 (by decide) (fun c1 => ?_) (fun c1 => absurd h1 c1)
  exact sx_throwW (cls := xIA) (text := "tide is not 0 to 20") (ik := 30) (is := 269) (ic := 34) (rest := []) hx hb hst hown (by decide +kernel) hts mX3_tideOn_0_x1 mX3_tideOn_1_x1 (by decide +kernel) gX3_tideOn_x1_x sXB_IA sX_okIA hX hw (hl.1.trans hml.symm) dX3_tideOn_10 dX3_tideOn_13 dX3_tideOn_14 dX3_tideOn_17 dX3_tideOn_20 hnx (Nat.le_of_ble_eq_true rfl) (Nat.le_of_ble_eq_true rfl) (Nat.le_of_ble_eq_true rfl) (Nat.le_of_ble_eq_true rfl) hlocks (Nat.le_refl _) (Nat.le_refl _)
theorem mX3_tideOn_0_x2 : (Cond.classLink RX3 30 xIA) ∈ wsX3_tideOn := by decide +kernel
theorem mX3_tideOn_1_x2 : (Cond.initialized xIA) ∈ wsX3_tideOn := by decide +kernel
theorem gX3_tideOn_x2_x : ∀ w ∈ (vx_atS RX3 34 xIA xNm).filter goodWord, w ∈ wsX3_tideOn := by decide +kernel
set_option maxHeartbeats 4000000 in
set_option maxRecDepth 100000 in
theorem zX3_tideOn_x2 (l : Launch) (hst : l.stackTraces = false) (D : va_G) (a : Nat → Nat) (cs : Nat → ClassId) (σ : sS) (x y : Int32) (h1 : ¬ x < 0) (h2 : ¬ x ≤ 20) : sMx l yX3_tideOn wsX3_tideOn ({ frames := 6, cells := 1, slots := 6, locals := 84 }) D a cs [.ref (a 0), .int x, .int y] σ xIA := by
  intro sz
  refine vx_ofW (cc := cX3_tideOn) (maxL := 5) (ret := (some .int)) (by decide) rfl ?_
  intro p e s m args below meth c s₁ B hml hnx hv
  obtain ⟨rfl, ⟨hsz, hv2⟩, hX⟩ := hv
  have hv3 : sB D a cs σ sz s := ⟨hsz, hv2⟩
  subst hsz
  have hw := sH_start hv3
  obtain ⟨-, -, hK, -, hN⟩ := hv3
  have hx := B.exec
  have hb := B.bytes
  have hts := atoms_spec (ws := wsX3_tideOn) B.pre
  have hown : s.vm.findClass RX3 = some m.cls := findClass_of_methodNamed B.named
  have hlocks := B.notSynchronized
  have hA : ∀ q : Nat, s.heap.size ≤ q → sA a s.heap.size q := sA_new
  have hl := lv_entry ([.ref (a 0), .int x, .int y]) (n := 5) (Nat.le_of_ble_eq_true rfl)
  rw [lg_entry_eq]
  generalize (lg_sl ([.ref (a 0), .int x, .int y]) ++ List.replicate (5 - (lg_sl ([.ref (a 0), .int x, .int y])).length) Slot.unset).toArray = ls at hl ⊢
  have hl : lv_has ls 5 [(0, .ref (a 0)), (1, .int x), (2, .int y)] := hl
  refine lv_iload_n hx hb dX3_tideOn_0 rfl (lv_at hl 1 rfl) ?_
  refine lv_if_lt (tgt := 10) hx hb dX3_tideOn_1 (by decide) (fun c1 => absurd c1 h1) (fun c1 => ?_)
  refine lv_iload_n hx hb dX3_tideOn_4 rfl (lv_at hl 1 rfl) ?_
  refine lv_bipush (v := 20) hx hb dX3_tideOn_5 (by decide) ?_
  refine lv_icmp_le (tgt := 21) hx hb dX3_tideOn_7 (by decide) (fun c2 => absurd c2 h2) (fun c2 => ?_)
  exact sx_throwW (cls := xIA) (text := "tide is not 0 to 20") (ik := 30) (is := 269) (ic := 34) (rest := []) hx hb hst hown (by decide +kernel) hts mX3_tideOn_0_x2 mX3_tideOn_1_x2 (by decide +kernel) gX3_tideOn_x2_x sXB_IA sX_okIA hX hw (hl.1.trans hml.symm) dX3_tideOn_10 dX3_tideOn_13 dX3_tideOn_14 dX3_tideOn_17 dX3_tideOn_20 hnx (Nat.le_of_ble_eq_true rfl) (Nat.le_of_ble_eq_true rfl) (Nat.le_of_ble_eq_true rfl) (Nat.le_of_ble_eq_true rfl) hlocks (Nat.le_refl _) (Nat.le_refl _)
theorem mX3_cover_0 : (Cond.fieldLink RX3 10 "SaltRow" "row" "LSaltRow$Row;") ∈ wsX3_cover := by decide +kernel
theorem iX3_cover_X3 : ∀ w ∈ wsX30, w ∈ wsX3_cover := by decide +kernel
theorem mX3_cover_2 : (Cond.fieldLink RX3 46 "SaltRow$Row" "ponds" "[LSaltRow$Pond;") ∈ wsX3_cover := by decide +kernel
theorem iX3_cover_X2 : ∀ w ∈ wsX20, w ∈ wsX3_cover := by decide +kernel
theorem mX3_cover_4 : (Cond.fieldLink RX3 62 "SaltRow$Pond" "isCovered" "Z") ∈ wsX3_cover := by decide +kernel
theorem iX3_cover_X1 : ∀ w ∈ wsX10, w ∈ wsX3_cover := by decide +kernel
set_option maxHeartbeats 4000000 in
set_option maxRecDepth 100000 in
theorem zX3_cover (l : Launch) (D : va_G) (a : Nat → Nat) (cs : Nat → ClassId) (σ : sS) (q : Nat) (hq : q < 3) (x : Int32) (hzx : x = 0 ∨ x = 1) (hzo : σ (5 + 8 * 0 + (5 + q)) 10 = 0 ∨ σ (5 + 8 * 0 + (5 + q)) 10 = 1) : sMi l yX3_cover wsX3_cover ({ frames := 1, cells := 0, slots := 0, locals := 21 }) D a cs [.ref (a 0), .int (nI (5 + q)), .int x] σ (σ (5 + 8 * 0 + (5 + q)) 10) (va_up σ (5 + 8 * 0 + (5 + q)) (upd (σ (5 + 8 * 0 + (5 + q))) 10 x)) := by
  intro sz
  refine Met.ofW (cc := cX3_cover) (maxL := 4) (ret := (some .boolean)) (by decide) rfl ?_
  intro p e s m args below meth c s₁ B hml hv
  obtain ⟨rfl, hsz, hv2⟩ := hv
  have hv3 : sB D a cs σ sz s := ⟨hsz, hv2⟩
  subst hsz
  have hw := sH_start hv3
  obtain ⟨-, -, hK, -, hN⟩ := hv3
  have hx := B.exec
  have hb := B.bytes
  have hr := B.returns
  have hts := atoms_spec (ws := wsX3_cover) B.pre
  have hown : s.vm.findClass RX3 = some m.cls := findClass_of_methodNamed B.named
  have hlocks := B.notSynchronized
  have hA : ∀ q : Nat, s.heap.size ≤ q → sA a s.heap.size q := sA_new
  have hl := lv_entry ([.ref (a 0), .int (nI (5 + q)), .int x]) (n := 4) (Nat.le_of_ble_eq_true rfl)
  rw [lg_entry_eq]
  generalize (lg_sl ([.ref (a 0), .int (nI (5 + q)), .int x]) ++ List.replicate (4 - (lg_sl ([.ref (a 0), .int (nI (5 + q)), .int x])).length) Slot.unset).toArray = ls at hl ⊢
  have hl : lv_has ls 4 [(0, .ref (a 0)), (1, .int (nI (5 + q))), (2, .int x)] := hl
  refine lv_aload_n hx hb dX3_cover_0 rfl (lv_at hl 0 rfl) ?_
  refine lv_iload_n hx hb dX3_cover_1 rfl (lv_at hl 1 rfl) ?_
  refine sc_v (sr_V (i := 0) (As := [.int (nI (5 + q))]) (rest := []) ⟨hx, hb, hml, hown, hts⟩ (zX3_needPan l D a cs _ q (by omega) _) (cwV 1 hts gX3_cover_X3_needPan rfl rfl rfl (by decide +kernel) ⟨Nat.le_of_ble_eq_true rfl, Nat.le_of_ble_eq_true rfl⟩) hK hN hw (by omega) sE_o kcX3 rfl hl.1 (Nat.le_of_ble_eq_true rfl) dX3_cover_2 ⟨Nat.le_of_ble_eq_true rfl, Nat.le_of_ble_eq_true rfl⟩) hw hA (fun H locs hw => ?_)
  refine lv_aload_n hx hb dX3_cover_5 rfl (lv_at hl 0 rfl) ?_
  refine sg_oq hx hb hts iX3_cover_X3 hown hK hw 0 (Or.inl ⟨rfl, rfl⟩) (hts _ mX3_cover_0) dX3_cover_6 ?_
  refine sg_rq (r := 0) hx hb hts iX3_cover_X2 hown hK hw (by omega) (hts _ mX3_cover_2) dX3_cover_9 ?_
  refine lv_iload_n hx hb dX3_cover_12 rfl (lv_at hl 1 rfl) ?_
  refine sg_q (r := 0) (k := (5 + q)) hx hb hK hw (by omega) (by omega) rfl dX3_cover_13 ?_
  refine sg_p hx hb hts iX3_cover_X1 hown hK hw (by omega) 10 (by decide) (hts _ mX3_cover_4) dX3_cover_14 ?_
  refine lv_istore_n (lv' := [(3, .int (σ (5 + 8 * 0 + (5 + q)) 10)), (0, .ref (a 0)), (1, .int (nI (5 + q))), (2, .int x)]) hx hb dX3_cover_17 rfl hl (by decide) rfl (fun ls hl => ?_)
  refine lv_aload_n hx hb dX3_cover_18 rfl (lv_at hl 1 rfl) ?_
  refine sg_oq hx hb hts iX3_cover_X3 hown hK hw 0 (Or.inl ⟨rfl, rfl⟩) (hts _ mX3_cover_0) dX3_cover_19 ?_
  refine sg_rq (r := 0) hx hb hts iX3_cover_X2 hown hK hw (by omega) (hts _ mX3_cover_2) dX3_cover_22 ?_
  refine lv_iload_n hx hb dX3_cover_25 rfl (lv_at hl 2 rfl) ?_
  refine sg_q (r := 0) (k := (5 + q)) hx hb hK hw (by omega) (by omega) rfl dX3_cover_26 ?_
  refine lv_iload_n hx hb dX3_cover_27 rfl (lv_at hl 3 rfl) ?_
  refine sp_z hx hb hts iX3_cover_X1 hown hK hw (by omega) 10 hzx (by decide) (hts _ mX3_cover_4) dX3_cover_28 (fun H locs hw => ?_)
  obtain ⟨τ1, eτ1⟩ : ∃ zz : sS, va_up σ (5 + 8 * 0 + (5 + q)) (upd (σ (5 + 8 * 0 + (5 + q))) 10 x) = zz := ⟨_, rfl⟩
  rw [eτ1] at hw
  refine lv_iload_n hx hb dX3_cover_31 rfl (lv_at hl 0 rfl) ?_
  exact se_z hx hb hr hlocks hw hzo (by subst eτ1; exact rfl) (by subst eτ1; exact rfl) dX3_cover_32
set_option maxHeartbeats 4000000 in
set_option maxRecDepth 100000 in
theorem zX3_tide (l : Launch) (D : va_G) (a : Nat → Nat) (cs : Nat → ClassId) (σ : sS) (x : Int32) (h1 : ¬ x < 0) (h2 : x ≤ 9999) : sMi l yX3_tide wsX3_tide ({ frames := 2, cells := 0, slots := 0, locals := 45 }) D a cs [.ref (a 0), .int x] σ (f_X3_tideAt x) σ := by
  intro sz
  refine Met.ofW (cc := cX3_tide) (maxL := 2) (ret := (some .int)) (by decide) rfl ?_
  intro p e s m args below meth c s₁ B hml hv
  obtain ⟨rfl, hsz, hv2⟩ := hv
  have hv3 : sB D a cs σ sz s := ⟨hsz, hv2⟩
  subst hsz
  have hw := sH_start hv3
  obtain ⟨-, -, hK, -, hN⟩ := hv3
  have hx := B.exec
  have hb := B.bytes
  have hr := B.returns
  have hts := atoms_spec (ws := wsX3_tide) B.pre
  have hown : s.vm.findClass RX3 = some m.cls := findClass_of_methodNamed B.named
  have hlocks := B.notSynchronized
  have hA : ∀ q : Nat, s.heap.size ≤ q → sA a s.heap.size q := sA_new
  have hl := lv_entry ([.ref (a 0), .int x]) (n := 2) (Nat.le_of_ble_eq_true rfl)
  rw [lg_entry_eq]
  generalize (lg_sl ([.ref (a 0), .int x]) ++ List.replicate (2 - (lg_sl ([.ref (a 0), .int x])).length) Slot.unset).toArray = ls at hl ⊢
  have hl : lv_has ls 2 [(0, .ref (a 0)), (1, .int x)] := hl
  refine lv_iload_n hx hb dX3_tide_0 rfl (lv_at hl 1 rfl) ?_
  refine lv_if_lt (tgt := 11) hx hb dX3_tide_1 (by decide) (fun c1 => absurd c1 h1) (fun c1 => ?_)
  refine lv_iload_n hx hb dX3_tide_4 rfl (lv_at hl 1 rfl) ?_
  refine lv_sipush (v := 9999) hx hb dX3_tide_5 (by decide) ?_
  refine lv_icmp_le (tgt := 21) hx hb dX3_tide_8 (by decide) (fun c2 => ?_) (fun c2 => absurd h2 c2)
  refine lv_iload_n hx hb dX3_tide_21 rfl (lv_at hl 1 rfl) ?_
  refine sc_i (sr_S (As := [.int x]) (rest := []) ⟨hx, hb, hml, hown, hts⟩ (zX3_tideAt l D a cs _ x _) (va_cwS 1 hts gX3_tide_X3_tideAt rfl rfl rfl (by decide +kernel) ⟨Nat.le_of_ble_eq_true rfl, Nat.le_of_ble_eq_true rfl⟩) hK hN hw rfl hl.1 (Nat.le_of_ble_eq_true rfl) dX3_tide_22 ⟨Nat.le_of_ble_eq_true rfl, Nat.le_of_ble_eq_true rfl⟩) hw hA (fun H locs hw => ?_)
  exact se_i hx hb hr hlocks hw (by exact rfl) (by rfl) dX3_tide_25
