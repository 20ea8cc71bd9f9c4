theorem mX3_needPond_0_x1 : (Cond.classLink RX3 311 xIO) ∈ wsX3_needPond := by decide +kernel
theorem mX3_needPond_1_x1 : (Cond.initialized xIO) ∈ wsX3_needPond := by decide +kernel
theorem gX3_needPond_x1_x : ∀ w ∈ (vx_atS RX3 315 xIO xNm).filter goodWord, w ∈ wsX3_needPond := by decide +kernel
set_option maxHeartbeats 4000000 in
set_option maxRecDepth 100000 in
theorem zX3_needPond_x1 (l : Launch) (hst : l.stackTraces = false) (D : va_G) (a : Nat → Nat) (cs : Nat → ClassId) (σ : sS) (x : Int32) (h1 : x < 0) : sMx l yX3_needPond wsX3_needPond ({ frames := 6, cells := 1, slots := 6, locals := 84 }) D a cs [.ref (a 0), .int x] σ xIO := by
  intro sz
  refine vx_ofW (cc := cX3_needPond) (maxL := 2) (ret := none) (by decide) rfl ?_
  intro p e s m args below meth c s₁ B hml hnx hv
  obtain ⟨rfl, ⟨hsz, hv2⟩, hX⟩ := hv
  have hv3 : sB D a cs σ sz s := ⟨hsz, hv2⟩
  subst hsz
  have hw := sH_start hv3
  obtain ⟨-, -, hK, -, hN⟩ := hv3
  have hx := B.exec
  have hb := B.bytes
  have hts := atoms_spec (ws := wsX3_needPond) B.pre
  have hown : s.vm.findClass RX3 = some m.cls := findClass_of_methodNamed B.named
  have hlocks := B.notSynchronized
  have hA : ∀ q : Nat, s.heap.size ≤ q → sA a s.heap.size q := sA_new
  have hl := lv_entry ([.ref (a 0), .int x]) (n := 2) (Nat.le_of_ble_eq_true rfl)
  rw [lg_entry_eq]
  generalize (lg_sl ([.ref (a 0), .int x]) ++ List.replicate (2 - (lg_sl ([.ref (a 0), .int x])).length) Slot.unset).toArray = ls at hl ⊢
  have hl : lv_has ls 2 [(0, .ref (a 0)), (1, .int x)] := hl
  refine lv_iload_n hx hb dX3_needPond_0 rfl (lv_at hl 1 rfl) ?_
  refine lv_if_lt (tgt := 10) hx hb dX3_needPond_1 (by decide) (fun c1 => ?_) (fun c1 => absurd h1 c1)
  exact sx_throwW (cls := xIO) (text := "not a POND of 0 to 7") (ik := 311) (is := 313) (ic := 315) (rest := []) hx hb hst hown (by decide +kernel) hts mX3_needPond_0_x1 mX3_needPond_1_x1 (by decide +kernel) gX3_needPond_x1_x sXB_IO sX_okIO hX hw (hl.1.trans hml.symm) dX3_needPond_10 dX3_needPond_13 dX3_needPond_14 dX3_needPond_17 dX3_needPond_20 hnx (Nat.le_of_ble_eq_true rfl) (Nat.le_of_ble_eq_true rfl) (Nat.le_of_ble_eq_true rfl) (Nat.le_of_ble_eq_true rfl) hlocks (Nat.le_refl _) (Nat.le_refl _)
theorem mX3_needPond_0_x2 : (Cond.classLink RX3 311 xIO) ∈ wsX3_needPond := by decide +kernel
theorem mX3_needPond_1_x2 : (Cond.initialized xIO) ∈ wsX3_needPond := by decide +kernel
theorem gX3_needPond_x2_x : ∀ w ∈ (vx_atS RX3 315 xIO xNm).filter goodWord, w ∈ wsX3_needPond := by decide +kernel
set_option maxHeartbeats 4000000 in
set_option maxRecDepth 100000 in
theorem zX3_needPond_x2 (l : Launch) (hst : l.stackTraces = false) (D : va_G) (a : Nat → Nat) (cs : Nat → ClassId) (σ : sS) (x : Int32) (h1 : ¬ x < 0) (h2 : ¬ x < 8) : sMx l yX3_needPond wsX3_needPond ({ frames := 6, cells := 1, slots := 6, locals := 84 }) D a cs [.ref (a 0), .int x] σ xIO := by
  intro sz
  refine vx_ofW (cc := cX3_needPond) (maxL := 2) (ret := none) (by decide) rfl ?_
  intro p e s m args below meth c s₁ B hml hnx hv
  obtain ⟨rfl, ⟨hsz, hv2⟩, hX⟩ := hv
  have hv3 : sB D a cs σ sz s := ⟨hsz, hv2⟩
  subst hsz
  have hw := sH_start hv3
  obtain ⟨-, -, hK, -, hN⟩ := hv3
  have hx := B.exec
  have hb := B.bytes
  have hts := atoms_spec (ws := wsX3_needPond) B.pre
  have hown : s.vm.findClass RX3 = some m.cls := findClass_of_methodNamed B.named
  have hlocks := B.notSynchronized
  have hA : ∀ q : Nat, s.heap.size ≤ q → sA a s.heap.size q := sA_new
  have hl := lv_entry ([.ref (a 0), .int x]) (n := 2) (Nat.le_of_ble_eq_true rfl)
  rw [lg_entry_eq]
  generalize (lg_sl ([.ref (a 0), .int x]) ++ List.replicate (2 - (lg_sl ([.ref (a 0), .int x])).length) Slot.unset).toArray = ls at hl ⊢
  have hl : lv_has ls 2 [(0, .ref (a 0)), (1, .int x)] := hl
  refine lv_iload_n hx hb dX3_needPond_0 rfl (lv_at hl 1 rfl) ?_
  refine lv_if_lt (tgt := 10) hx hb dX3_needPond_1 (by decide) (fun c1 => absurd c1 h1) (fun c1 => ?_)
  refine lv_iload_n hx hb dX3_needPond_4 rfl (lv_at hl 1 rfl) ?_
  refine lv_bipush (v := 8) hx hb dX3_needPond_5 (by decide) ?_
  refine lv_icmp_lt (tgt := 21) hx hb dX3_needPond_7 (by decide) (fun c2 => absurd c2 h2) (fun c2 => ?_)
  exact sx_throwW (cls := xIO) (text := "not a POND of 0 to 7") (ik := 311) (is := 313) (ic := 315) (rest := []) hx hb hst hown (by decide +kernel) hts mX3_needPond_0_x2 mX3_needPond_1_x2 (by decide +kernel) gX3_needPond_x2_x sXB_IO sX_okIO hX hw (hl.1.trans hml.symm) dX3_needPond_10 dX3_needPond_13 dX3_needPond_14 dX3_needPond_17 dX3_needPond_20 hnx (Nat.le_of_ble_eq_true rfl) (Nat.le_of_ble_eq_true rfl) (Nat.le_of_ble_eq_true rfl) (Nat.le_of_ble_eq_true rfl) hlocks (Nat.le_refl _) (Nat.le_refl _)
theorem zX3_needPond_x (l : Launch) (hst : l.stackTraces = false) (D : va_G) (a : Nat → Nat) (cs : Nat → ClassId) (σ : sS) (x0 : Int32) (hp : x0 < 0 ∨ ¬ x0 < 0 ∧ ¬ x0 < 8) : sMx l yX3_needPond wsX3_needPond ({ frames := 6, cells := 1, slots := 6, locals := 84 }) D a cs [.ref (a 0), .int x0] σ xIO := by
  rcases hp with h | ⟨h1, h2⟩
  · exact zX3_needPond_x1 l hst D a cs σ _ h
  · exact zX3_needPond_x2 l hst D a cs σ _ h1 h2
theorem mX3_needPan_0_x1 : (Cond.classLink RX3 311 xIO) ∈ wsX3_needPan := by decide +kernel
theorem mX3_needPan_1_x1 : (Cond.initialized xIO) ∈ wsX3_needPan := by decide +kernel
theorem gX3_needPan_x1_x : ∀ w ∈ (vx_atS RX3 315 xIO xNm).filter goodWord, w ∈ wsX3_needPan := by decide +kernel
set_option maxHeartbeats 4000000 in
set_option maxRecDepth 100000 in
theorem zX3_needPan_x1 (l : Launch) (hst : l.stackTraces = false) (D : va_G) (a : Nat → Nat) (cs : Nat → ClassId) (σ : sS) (x : Int32) (h1 : x < 5) : sMx l yX3_needPan wsX3_needPan ({ frames := 6, cells := 1, slots := 6, locals := 84 }) D a cs [.ref (a 0), .int x] σ xIO := by
  intro sz
  refine vx_ofW (cc := cX3_needPan) (maxL := 2) (ret := none) (by decide) rfl ?_
  intro p e s m args below meth c s₁ B hml hnx hv
  obtain ⟨rfl, ⟨hsz, hv2⟩, hX⟩ := hv
  have hv3 : sB D a cs σ sz s := ⟨hsz, hv2⟩
  subst hsz
  have hw := sH_start hv3
  obtain ⟨-, -, hK, -, hN⟩ := hv3
  have hx := B.exec
  have hb := B.bytes
  have hts := atoms_spec (ws := wsX3_needPan) B.pre
  have hown : s.vm.findClass RX3 = some m.cls := findClass_of_methodNamed B.named
  have hlocks := B.notSynchronized
  have hA : ∀ q : Nat, s.heap.size ≤ q → sA a s.heap.size q := sA_new
  have hl := lv_entry ([.ref (a 0), .int x]) (n := 2) (Nat.le_of_ble_eq_true rfl)
  rw [lg_entry_eq]
  generalize (lg_sl ([.ref (a 0), .int x]) ++ List.replicate (2 - (lg_sl ([.ref (a 0), .int x])).length) Slot.unset).toArray = ls at hl ⊢
  have hl : lv_has ls 2 [(0, .ref (a 0)), (1, .int x)] := hl
  refine lv_iload_n hx hb dX3_needPan_0 rfl (lv_at hl 1 rfl) ?_
  refine lv_iconst (v := 5) hx hb dX3_needPan_1 (by decide) ?_
  refine lv_icmp_lt (tgt := 11) hx hb dX3_needPan_2 (by decide) (fun c1 => ?_) (fun c1 => absurd h1 c1)
  exact sx_throwW (cls := xIO) (text := "not a PAN of 5 to 7") (ik := 311) (is := 316) (ic := 315) (rest := []) hx hb hst hown (by decide +kernel) hts mX3_needPan_0_x1 mX3_needPan_1_x1 (by decide +kernel) gX3_needPan_x1_x sXB_IO sX_okIO hX hw (hl.1.trans hml.symm) dX3_needPan_11 dX3_needPan_14 dX3_needPan_15 dX3_needPan_18 dX3_needPan_21 hnx (Nat.le_of_ble_eq_true rfl) (Nat.le_of_ble_eq_true rfl) (Nat.le_of_ble_eq_true rfl) (Nat.le_of_ble_eq_true rfl) hlocks (Nat.le_refl _) (Nat.le_refl _)
theorem mX3_needPan_0_x2 : (Cond.classLink RX3 311 xIO) ∈ wsX3_needPan := by decide +kernel
theorem mX3_needPan_1_x2 : (Cond.initialized xIO) ∈ wsX3_needPan := by decide +kernel
theorem gX3_needPan_x2_x : ∀ w ∈ (vx_atS RX3 315 xIO xNm).filter goodWord, w ∈ wsX3_needPan := by decide +kernel
set_option maxHeartbeats 4000000 in
set_option maxRecDepth 100000 in
theorem zX3_needPan_x2 (l : Launch) (hst : l.stackTraces = false) (D : va_G) (a : Nat → Nat) (cs : Nat → ClassId) (σ : sS) (x : Int32) (h1 : ¬ x < 5) (h2 : ¬ x < 8) : sMx l yX3_needPan wsX3_needPan ({ frames := 6, cells := 1, slots := 6, locals := 84 }) D a cs [.ref (a 0), .int x] σ xIO := by
  intro sz
  refine vx_ofW (cc := cX3_needPan) (maxL := 2) (ret := none) (by decide) rfl ?_
  intro p e s m args below meth c s₁ B hml hnx hv
  obtain ⟨rfl, ⟨hsz, hv2⟩, hX⟩ := hv
  have hv3 : sB D a cs σ sz s := ⟨hsz, hv2⟩
  subst hsz
  have hw := sH_start hv3
  obtain ⟨-, -, hK, -, hN⟩ := hv3
  have hx := B.exec
  have hb := B.bytes
  have hts := atoms_spec (ws := wsX3_needPan) B.pre
  have hown : s.vm.findClass RX3 = some m.cls := findClass_of_methodNamed B.named
  have hlocks := B.notSynchronized
  have hA : ∀ q : Nat, s.heap.size ≤ q → sA a s.heap.size q := sA_new
  have hl := lv_entry ([.ref (a 0), .int x]) (n := 2) (Nat.le_of_ble_eq_true rfl)
  rw [lg_entry_eq]
  generalize (lg_sl ([.ref (a 0), .int x]) ++ List.replicate (2 - (lg_sl ([.ref (a 0), .int x])).length) Slot.unset).toArray = ls at hl ⊢
  have hl : lv_has ls 2 [(0, .ref (a 0)), (1, .int x)] := hl
  refine lv_iload_n hx hb dX3_needPan_0 rfl (lv_at hl 1 rfl) ?_
  refine lv_iconst (v := 5) hx hb dX3_needPan_1 (by decide) ?_
  refine lv_icmp_lt (tgt := 11) hx hb dX3_needPan_2 (by decide) (fun c1 => absurd c1 h1) (fun c1 => ?_)
  refine lv_iload_n hx hb dX3_needPan_5 rfl (lv_at hl 1 rfl) ?_
  refine lv_bipush (v := 8) hx hb dX3_needPan_6 (by decide) ?_
  refine lv_icmp_lt (tgt := 22) hx hb dX3_needPan_8 (by decide) (fun c2 => absurd c2 h2) (fun c2 => ?_)
  exact sx_throwW (cls := xIO) (text := "not a PAN of 5 to 7") (ik := 311) (is := 316) (ic := 315) (rest := []) hx hb hst hown (by decide +kernel) hts mX3_needPan_0_x2 mX3_needPan_1_x2 (by decide +kernel) gX3_needPan_x2_x sXB_IO sX_okIO hX hw (hl.1.trans hml.symm) dX3_needPan_11 dX3_needPan_14 dX3_needPan_15 dX3_needPan_18 dX3_needPan_21 hnx (Nat.le_of_ble_eq_true rfl) (Nat.le_of_ble_eq_true rfl) (Nat.le_of_ble_eq_true rfl) (Nat.le_of_ble_eq_true rfl) hlocks (Nat.le_refl _) (Nat.le_refl _)
theorem zX3_needPan_x (l : Launch) (hst : l.stackTraces = false) (D : va_G) (a : Nat → Nat) (cs : Nat → ClassId) (σ : sS) (x0 : Int32) (hp : x0 < 5 ∨ ¬ x0 < 5 ∧ ¬ x0 < 8) : sMx l yX3_needPan wsX3_needPan ({ frames := 6, cells := 1, slots := 6, locals := 84 }) D a cs [.ref (a 0), .int x0] σ xIO := by
  rcases hp with h | ⟨h1, h2⟩
  · exact zX3_needPan_x1 l hst D a cs σ _ h
  · exact zX3_needPan_x2 l hst D a cs σ _ h1 h2
theorem mX3_needFamily_0_x1 : (Cond.classLink RX3 311 xIO) ∈ wsX3_needFamily := by decide +kernel
theorem mX3_needFamily_1_x1 : (Cond.initialized xIO) ∈ wsX3_needFamily := by decide +kernel
theorem gX3_needFamily_x1_x : ∀ w ∈ (vx_atS RX3 315 xIO xNm).filter goodWord, w ∈ wsX3_needFamily := by decide +kernel
set_option maxHeartbeats 4000000 in
set_option maxRecDepth 100000 in
theorem zX3_needFamily_x1 (l : Launch) (hst : l.stackTraces = false) (D : va_G) (a : Nat → Nat) (cs : Nat → ClassId) (σ : sS) (x : Int32) (h1 : x < 0) : sMx l yX3_needFamily wsX3_needFamily ({ frames := 6, cells := 1, slots := 6, locals := 84 }) D a cs [.ref (a 0), .int x] σ xIO := by
  intro sz
  refine vx_ofW (cc := cX3_needFamily) (maxL := 2) (ret := none) (by decide) rfl ?_
  intro p e s m args below meth c s₁ B hml hnx hv
  obtain ⟨rfl, ⟨hsz, hv2⟩, hX⟩ := hv
  have hv3 : sB D a cs σ sz s := ⟨hsz, hv2⟩
  subst hsz
  have hw := sH_start hv3
  obtain ⟨-, -, hK, -, hN⟩ := hv3
  have hx := B.exec
  have hb := B.bytes
  have hts := atoms_spec (ws := wsX3_needFamily) B.pre
  have hown : s.vm.findClass RX3 = some m.cls := findClass_of_methodNamed B.named
  have hlocks := B.notSynchronized
  have hA : ∀ q : Nat, s.heap.size ≤ q → sA a s.heap.size q := sA_new
  have hl := lv_entry ([.ref (a 0), .int x]) (n := 2) (Nat.le_of_ble_eq_true rfl)
  rw [lg_entry_eq]
  generalize (lg_sl ([.ref (a 0), .int x]) ++ List.replicate (2 - (lg_sl ([.ref (a 0), .int x])).length) Slot.unset).toArray = ls at hl ⊢
  have hl : lv_has ls 2 [(0, .ref (a 0)), (1, .int x)] := hl
  refine lv_iload_n hx hb dX3_needFamily_0 rfl (lv_at hl 1 rfl) ?_
  refine lv_if_lt (tgt := 12) hx hb dX3_needFamily_1 (by decide) (fun c1 => ?_) (fun c1 => absurd h1 c1)
  exact sx_throwW (cls := xIO) (text := "no such FAMILY") (ik := 311) (is := 318) (ic := 315) (rest := []) hx hb hst hown (by decide +kernel) hts mX3_needFamily_0_x1 mX3_needFamily_1_x1 (by decide +kernel) gX3_needFamily_x1_x sXB_IO sX_okIO hX hw (hl.1.trans hml.symm) dX3_needFamily_12 dX3_needFamily_15 dX3_needFamily_16 dX3_needFamily_19 dX3_needFamily_22 hnx (Nat.le_of_ble_eq_true rfl) (Nat.le_of_ble_eq_true rfl) (Nat.le_of_ble_eq_true rfl) (Nat.le_of_ble_eq_true rfl) hlocks (Nat.le_refl _) (Nat.le_refl _)
theorem mX3_needFamily_0_x2 : (Cond.fieldLink RX3 129 "SaltRow" "familyCount" "I") ∈ wsX3_needFamily := by decide +kernel
theorem iX3_needFamily_X3_x2 : ∀ w ∈ wsX30, w ∈ wsX3_needFamily := by decide +kernel
theorem mX3_needFamily_2_x2 : (Cond.classLink RX3 311 xIO) ∈ wsX3_needFamily := by decide +kernel
theorem mX3_needFamily_3_x2 : (Cond.initialized xIO) ∈ wsX3_needFamily := by decide +kernel
theorem gX3_needFamily_x2_x : ∀ w ∈ (vx_atS RX3 315 xIO xNm).filter goodWord, w ∈ wsX3_needFamily := by decide +kernel
set_option maxHeartbeats 4000000 in
set_option maxRecDepth 100000 in
theorem zX3_needFamily_x2 (l : Launch) (hst : l.stackTraces = false) (D : va_G) (a : Nat → Nat) (cs : Nat → ClassId) (σ : sS) (x : Int32) (h1 : ¬ x < 0) (h2 : ¬ x < σ 0 3) : sMx l yX3_needFamily wsX3_needFamily ({ frames := 6, cells := 1, slots := 6, locals := 84 }) D a cs [.ref (a 0), .int x] σ xIO := by
  intro sz
  refine vx_ofW (cc := cX3_needFamily) (maxL := 2) (ret := none) (by decide) rfl ?_
  intro p e s m args below meth c s₁ B hml hnx hv
  obtain ⟨rfl, ⟨hsz, hv2⟩, hX⟩ := hv
  have hv3 : sB D a cs σ sz s := ⟨hsz, hv2⟩
  subst hsz
  have hw := sH_start hv3
  obtain ⟨-, -, hK, -, hN⟩ := hv3
  have hx := B.exec
  have hb := B.bytes
  have hts := atoms_spec (ws := wsX3_needFamily) B.pre
  have hown : s.vm.findClass RX3 = some m.cls := findClass_of_methodNamed B.named
  have hlocks := B.notSynchronized
  have hA : ∀ q : Nat, s.heap.size ≤ q → sA a s.heap.size q := sA_new
  have hl := lv_entry ([.ref (a 0), .int x]) (n := 2) (Nat.le_of_ble_eq_true rfl)
  rw [lg_entry_eq]
  generalize (lg_sl ([.ref (a 0), .int x]) ++ List.replicate (2 - (lg_sl ([.ref (a 0), .int x])).length) Slot.unset).toArray = ls at hl ⊢
  have hl : lv_has ls 2 [(0, .ref (a 0)), (1, .int x)] := hl
  refine lv_iload_n hx hb dX3_needFamily_0 rfl (lv_at hl 1 rfl) ?_
  refine lv_if_lt (tgt := 12) hx hb dX3_needFamily_1 (by decide) (fun c1 => absurd c1 h1) (fun c1 => ?_)
  refine lv_iload_n hx hb dX3_needFamily_4 rfl (lv_at hl 1 rfl) ?_
  refine lv_aload_n hx hb dX3_needFamily_5 rfl (lv_at hl 0 rfl) ?_
  refine sg_o hx hb hts iX3_needFamily_X3_x2 hown hK hw 3 (by decide) (hts _ mX3_needFamily_0_x2) dX3_needFamily_6 ?_
  refine lv_icmp_lt (tgt := 23) hx hb dX3_needFamily_9 (by decide) (fun c2 => absurd c2 h2) (fun c2 => ?_)
  exact sx_throwW (cls := xIO) (text := "no such FAMILY") (ik := 311) (is := 318) (ic := 315) (rest := []) hx hb hst hown (by decide +kernel) hts mX3_needFamily_2_x2 mX3_needFamily_3_x2 (by decide +kernel) gX3_needFamily_x2_x sXB_IO sX_okIO hX hw (hl.1.trans hml.symm) dX3_needFamily_12 dX3_needFamily_15 dX3_needFamily_16 dX3_needFamily_19 dX3_needFamily_22 hnx (Nat.le_of_ble_eq_true rfl) (Nat.le_of_ble_eq_true rfl) (Nat.le_of_ble_eq_true rfl) (Nat.le_of_ble_eq_true rfl) hlocks (Nat.le_refl _) (Nat.le_refl _)
theorem zX3_needFamily_x (l : Launch) (hst : l.stackTraces = false) (D : va_G) (a : Nat → Nat) (cs : Nat → ClassId) (σ : sS) (x0 : Int32) (hp : x0 < 0 ∨ ¬ x0 < 0 ∧ ¬ x0 < σ 0 3) : sMx l yX3_needFamily wsX3_needFamily ({ frames := 6, cells := 1, slots := 6, locals := 84 }) D a cs [.ref (a 0), .int x0] σ xIO := by
  rcases hp with h | ⟨h1, h2⟩
  · exact zX3_needFamily_x1 l hst D a cs σ _ h
  · exact zX3_needFamily_x2 l hst D a cs σ _ h1 h2
theorem mX3_needWeather_0_x1 : (Cond.classLink RX3 30 xIA) ∈ wsX3_needWeather := by decide +kernel
theorem mX3_needWeather_1_x1 : (Cond.initialized xIA) ∈ wsX3_needWeather := by decide +kernel
theorem gX3_needWeather_x1_x : ∀ w ∈ (vx_atS RX3 34 xIA xNm).filter goodWord, w ∈ wsX3_needWeather := by decide +kernel
set_option maxHeartbeats 4000000 in
set_option maxRecDepth 100000 in
theorem zX3_needWeather_x1 (l : Launch) (hst : l.stackTraces = false) (D : va_G) (a : Nat → Nat) (cs : Nat → ClassId) (σ : sS) (x y : Int32) (h1 : x < 0) : sMx l yX3_needWeather wsX3_needWeather ({ frames := 6, cells := 1, slots := 6, locals := 84 }) D a cs [.ref (a 0), .int x, .int y] σ xIA := by
  intro sz
  refine vx_ofW (cc := cX3_needWeather) (maxL := 3) (ret := none) (by decide) rfl ?_
  intro p e s m args below meth c s₁ B hml hnx hv
  obtain ⟨rfl, ⟨hsz, hv2⟩, hX⟩ := hv
  have hv3 : sB D a cs σ sz s := ⟨hsz, hv2⟩
  subst hsz
  have hw := sH_start hv3
  obtain ⟨-, -, hK, -, hN⟩ := hv3
  have hx := B.exec
  have hb := B.bytes
  have hts := atoms_spec (ws := wsX3_needWeather) B.pre
  have hown : s.vm.findClass RX3 = some m.cls := findClass_of_methodNamed B.named
  have hlocks := B.notSynchronized
  have hA : ∀ q : Nat, s.heap.size ≤ q → sA a s.heap.size q := sA_new
  have hl := lv_entry ([.ref (a 0), .int x, .int y]) (n := 3) (Nat.le_of_ble_eq_true rfl)
  rw [lg_entry_eq]
  generalize (lg_sl ([.ref (a 0), .int x, .int y]) ++ List.replicate (3 - (lg_sl ([.ref (a 0), .int x, .int y])).length) Slot.unset).toArray = ls at hl ⊢
  have hl : lv_has ls 3 [(0, .ref (a 0)), (1, .int x), (2, .int y)] := hl
  refine lv_iload_n hx hb dX3_needWeather_0 rfl (lv_at hl 1 rfl) ?_
  refine lv_if_lt (tgt := 10) hx hb dX3_needWeather_1 (by decide) (fun c1 => ?_) (fun c1 => absurd h1 c1)
  exact sx_throwW (cls := xIA) (text := "sun is not 0 to 9") (ik := 30) (is := 320) (ic := 34) (rest := []) hx hb hst hown (by decide +kernel) hts mX3_needWeather_0_x1 mX3_needWeather_1_x1 (by decide +kernel) gX3_needWeather_x1_x sXB_IA sX_okIA hX hw (hl.1.trans hml.symm) dX3_needWeather_10 dX3_needWeather_13 dX3_needWeather_14 dX3_needWeather_17 dX3_needWeather_20 hnx (Nat.le_of_ble_eq_true rfl) (Nat.le_of_ble_eq_true rfl) (Nat.le_of_ble_eq_true rfl) (Nat.le_of_ble_eq_true rfl) hlocks (Nat.le_refl _) (Nat.le_refl _)
theorem mX3_needWeather_0_x2 : (Cond.classLink RX3 30 xIA) ∈ wsX3_needWeather := by decide +kernel
theorem mX3_needWeather_1_x2 : (Cond.initialized xIA) ∈ wsX3_needWeather := by decide +kernel
theorem gX3_needWeather_x2_x : ∀ w ∈ (vx_atS RX3 34 xIA xNm).filter goodWord, w ∈ wsX3_needWeather := by decide +kernel
set_option maxHeartbeats 4000000 in
set_option maxRecDepth 100000 in
theorem zX3_needWeather_x2 (l : Launch) (hst : l.stackTraces = false) (D : va_G) (a : Nat → Nat) (cs : Nat → ClassId) (σ : sS) (x y : Int32) (h1 : ¬ x < 0) (h2 : ¬ x ≤ 9) : sMx l yX3_needWeather wsX3_needWeather ({ frames := 6, cells := 1, slots := 6, locals := 84 }) D a cs [.ref (a 0), .int x, .int y] σ xIA := by
  intro sz
  refine vx_ofW (cc := cX3_needWeather) (maxL := 3) (ret := none) (by decide) rfl ?_
  intro p e s m args below meth c s₁ B hml hnx hv
  obtain ⟨rfl, ⟨hsz, hv2⟩, hX⟩ := hv
  have hv3 : sB D a cs σ sz s := ⟨hsz, hv2⟩
  subst hsz
  have hw := sH_start hv3
  obtain ⟨-, -, hK, -, hN⟩ := hv3
  have hx := B.exec
  have hb := B.bytes
  have hts := atoms_spec (ws := wsX3_needWeather) B.pre
  have hown : s.vm.findClass RX3 = some m.cls := findClass_of_methodNamed B.named
  have hlocks := B.notSynchronized
  have hA : ∀ q : Nat, s.heap.size ≤ q → sA a s.heap.size q := sA_new
  have hl := lv_entry ([.ref (a 0), .int x, .int y]) (n := 3) (Nat.le_of_ble_eq_true rfl)
  rw [lg_entry_eq]
  generalize (lg_sl ([.ref (a 0), .int x, .int y]) ++ List.replicate (3 - (lg_sl ([.ref (a 0), .int x, .int y])).length) Slot.unset).toArray = ls at hl ⊢
  have hl : lv_has ls 3 [(0, .ref (a 0)), (1, .int x), (2, .int y)] := hl
  refine lv_iload_n hx hb dX3_needWeather_0 rfl (lv_at hl 1 rfl) ?_
  refine lv_if_lt (tgt := 10) hx hb dX3_needWeather_1 (by decide) (fun c1 => absurd c1 h1) (fun c1 => ?_)
  refine lv_iload_n hx hb dX3_needWeather_4 rfl (lv_at hl 1 rfl) ?_
  refine lv_bipush (v := 9) hx hb dX3_needWeather_5 (by decide) ?_
  refine lv_icmp_le (tgt := 21) hx hb dX3_needWeather_7 (by decide) (fun c2 => absurd c2 h2) (fun c2 => ?_)
  exact sx_throwW (cls := xIA) (text := "sun is not 0 to 9") (ik := 30) (is := 320) (ic := 34) (rest := []) hx hb hst hown (by decide +kernel) hts mX3_needWeather_0_x2 mX3_needWeather_1_x2 (by decide +kernel) gX3_needWeather_x2_x sXB_IA sX_okIA hX hw (hl.1.trans hml.symm) dX3_needWeather_10 dX3_needWeather_13 dX3_needWeather_14 dX3_needWeather_17 dX3_needWeather_20 hnx (Nat.le_of_ble_eq_true rfl) (Nat.le_of_ble_eq_true rfl) (Nat.le_of_ble_eq_true rfl) (Nat.le_of_ble_eq_true rfl) hlocks (Nat.le_refl _) (Nat.le_refl _)
theorem mX3_needWeather_0_x3 : (Cond.classLink RX3 30 xIA) ∈ wsX3_needWeather := by decide +kernel
theorem mX3_needWeather_1_x3 : (Cond.initialized xIA) ∈ wsX3_needWeather := by decide +kernel
theorem gX3_needWeather_x3_x : ∀ w ∈ (vx_atS RX3 34 xIA xNm).filter goodWord, w ∈ wsX3_needWeather := by decide +kernel
set_option maxHeartbeats 4000000 in
set_option maxRecDepth 100000 in
theorem zX3_needWeather_x3 (l : Launch) (hst : l.stackTraces = false) (D : va_G) (a : Nat → Nat) (cs : Nat → ClassId) (σ : sS) (x y : Int32) (h1 : ¬ x < 0) (h2 : x ≤ 9) (h3 : y < 0) : sMx l yX3_needWeather wsX3_needWeather ({ frames := 6, cells := 1, slots := 6, locals := 84 }) D a cs [.ref (a 0), .int x, .int y] σ xIA := by
  intro sz
  refine vx_ofW (cc := cX3_needWeather) (maxL := 3) (ret := none) (by decide) rfl ?_
  intro p e s m args below meth c s₁ B hml hnx hv
  obtain ⟨rfl, ⟨hsz, hv2⟩, hX⟩ := hv
  have hv3 : sB D a cs σ sz s := ⟨hsz, hv2⟩
  subst hsz
  have hw := sH_start hv3
  obtain ⟨-, -, hK, -, hN⟩ := hv3
  have hx := B.exec
  have hb := B.bytes
  have hts := atoms_spec (ws := wsX3_needWeather) B.pre
  have hown : s.vm.findClass RX3 = some m.cls := findClass_of_methodNamed B.named
  have hlocks := B.notSynchronized
  have hA : ∀ q : Nat, s.heap.size ≤ q → sA a s.heap.size q := sA_new
  have hl := lv_entry ([.ref (a 0), .int x, .int y]) (n := 3) (Nat.le_of_ble_eq_true rfl)
  rw [lg_entry_eq]
  generalize (lg_sl ([.ref (a 0), .int x, .int y]) ++ List.replicate (3 - (lg_sl ([.ref (a 0), .int x, .int y])).length) Slot.unset).toArray = ls at hl ⊢
  have hl : lv_has ls 3 [(0, .ref (a 0)), (1, .int x), (2, .int y)] := hl
  refine lv_iload_n hx hb dX3_needWeather_0 rfl (lv_at hl 1 rfl) ?_
  refine lv_if_lt (tgt := 10) hx hb dX3_needWeather_1 (by decide) (fun c1 => absurd c1 h1) (fun c1 => ?_)
  refine lv_iload_n hx hb dX3_needWeather_4 rfl (lv_at hl 1 rfl) ?_
  refine lv_bipush (v := 9) hx hb dX3_needWeather_5 (by decide) ?_
  refine lv_icmp_le (tgt := 21) hx hb dX3_needWeather_7 (by decide) (fun c2 => ?_) (fun c2 => absurd h2 c2)
  refine lv_iload_n hx hb dX3_needWeather_21 rfl (lv_at hl 2 rfl) ?_
  refine lv_if_lt (tgt := 31) hx hb dX3_needWeather_22 (by decide) (fun c3 => ?_) (fun c3 => absurd h3 c3)
  exact sx_throwW (cls := xIA) (text := "wind is not 0 to 9") (ik := 30) (is := 322) (ic := 34) (rest := []) hx hb hst hown (by decide +kernel) hts mX3_needWeather_0_x3 mX3_needWeather_1_x3 (by decide +kernel) gX3_needWeather_x3_x sXB_IA sX_okIA hX hw (hl.1.trans hml.symm) dX3_needWeather_31 dX3_needWeather_34 dX3_needWeather_35 dX3_needWeather_38 dX3_needWeather_41 hnx (Nat.le_of_ble_eq_true rfl) (Nat.le_of_ble_eq_true rfl) (Nat.le_of_ble_eq_true rfl) (Nat.le_of_ble_eq_true rfl) hlocks (Nat.le_refl _) (Nat.le_refl _)
theorem mX3_needWeather_0_x4 : (Cond.classLink RX3 30 xIA) ∈ wsX3_needWeather := by decide +kernel
theorem mX3_needWeather_1_x4 : (Cond.initialized xIA) ∈ wsX3_needWeather := by decide +kernel
theorem gX3_needWeather_x4_x : ∀ w ∈ (vx_atS RX3 34 xIA xNm).filter goodWord, w ∈ wsX3_needWeather := by decide +kernel
set_option maxHeartbeats 4000000 in
set_option maxRecDepth 100000 in
theorem zX3_needWeather_x4 (l : Launch) (hst : l.stackTraces = false) (D : va_G) (a : Nat → Nat) (cs : Nat → ClassId) (σ : sS) (x y : Int32) (h1 : ¬ x < 0) (h2 : x ≤ 9) (h3 : ¬ y < 0) (h4 : ¬ y ≤ 9) : sMx l yX3_needWeather wsX3_needWeather ({ frames := 6, cells := 1, slots := 6, locals := 84 }) D a cs [.ref (a 0), .int x, .int y] σ xIA := by
  intro sz
  refine vx_ofW (cc := cX3_needWeather) (maxL := 3) (ret := none) (by decide) rfl ?_
  intro p e s m args below meth c s₁ B hml hnx hv
  obtain ⟨rfl, ⟨hsz, hv2⟩, hX⟩ := hv
  have hv3 : sB D a cs σ sz s := ⟨hsz, hv2⟩
  subst hsz
  have hw := sH_start hv3
  obtain ⟨-, -, hK, -, hN⟩ := hv3
  have hx := B.exec
  have hb := B.bytes
  have hts := atoms_spec (ws := wsX3_needWeather) B.pre
  have hown : s.vm.findClass RX3 = some m.cls := findClass_of_methodNamed B.named
  have hlocks := B.notSynchronized
  have hA : ∀ q : Nat, s.heap.size ≤ q → sA a s.heap.size q := sA_new
  have hl := lv_entry ([.ref (a 0), .int x, .int y]) (n := 3) (Nat.le_of_ble_eq_true rfl)
  rw [lg_entry_eq]
  generalize (lg_sl ([.ref (a 0), .int x, .int y]) ++ List.replicate (3 - (lg_sl ([.ref (a 0), .int x, .int y])).length) Slot.unset).toArray = ls at hl ⊢
  have hl : lv_has ls 3 [(0, .ref (a 0)), (1, .int x), (2, .int y)] := hl
  refine lv_iload_n hx hb dX3_needWeather_0 rfl (lv_at hl 1 rfl) ?_
  refine lv_if_lt (tgt := 10) hx hb dX3_needWeather_1 (by decide) (fun c1 => absurd c1 h1) (fun c1 => ?_)
  refine lv_iload_n hx hb dX3_needWeather_4 rfl (lv_at hl 1 rfl) ?_
  refine lv_bipush (v := 9) hx hb dX3_needWeather_5 (by decide) ?_
  refine lv_icmp_le (tgt := 21) hx hb dX3_needWeather_7 (by decide) (fun c2 => ?_) (fun c2 => absurd h2 c2)
  refine lv_iload_n hx hb dX3_needWeather_21 rfl (lv_at hl 2 rfl) ?_
  refine lv_if_lt (tgt := 31) hx hb dX3_needWeather_22 (by decide) (fun c3 => absurd c3 h3) (fun c3 => ?_)
  refine lv_iload_n hx hb dX3_needWeather_25 rfl (lv_at hl 2 rfl) ?_
  refine lv_bipush (v := 9) hx hb dX3_needWeather_26 (by decide) ?_
  refine lv_icmp_le (tgt := 42) hx hb dX3_needWeather_28 (by decide) (fun c4 => absurd c4 h4) (fun c4 => ?_)
  exact sx_throwW (cls := xIA) (text := "wind is not 0 to 9") (ik := 30) (is := 322) (ic := 34) (rest := []) hx hb hst hown (by decide +kernel) hts mX3_needWeather_0_x4 mX3_needWeather_1_x4 (by decide +kernel) gX3_needWeather_x4_x sXB_IA sX_okIA hX hw (hl.1.trans hml.symm) dX3_needWeather_31 dX3_needWeather_34 dX3_needWeather_35 dX3_needWeather_38 dX3_needWeather_41 hnx (Nat.le_of_ble_eq_true rfl) (Nat.le_of_ble_eq_true rfl) (Nat.le_of_ble_eq_true rfl) (Nat.le_of_ble_eq_true rfl) hlocks (Nat.le_refl _) (Nat.le_refl _)
theorem zX3_needWeather_x (l : Launch) (hst : l.stackTraces = false) (D : va_G) (a : Nat → Nat) (cs : Nat → ClassId) (σ : sS) (x y : Int32) (hp : x < 0 ∨ ¬ x < 0 ∧ ¬ x ≤ 9 ∨ ¬ x < 0 ∧ x ≤ 9 ∧ y < 0 ∨ ¬ x < 0 ∧ x ≤ 9 ∧ ¬ y < 0 ∧ ¬ y ≤ 9) : sMx l yX3_needWeather wsX3_needWeather ({ frames := 6, cells := 1, slots := 6, locals := 84 }) D a cs [.ref (a 0), .int x, .int y] σ xIA := by
  rcases hp with h | ⟨h1, h2⟩ | ⟨h1, h2, h3⟩ | ⟨h1, h2, h3, h4⟩
  · exact zX3_needWeather_x1 l hst D a cs σ _ _ h
  · exact zX3_needWeather_x2 l hst D a cs σ _ _ h1 h2
  · exact zX3_needWeather_x3 l hst D a cs σ _ _ h1 h2 h3
  · exact zX3_needWeather_x4 l hst D a cs σ _ _ h1 h2 h3 h4
