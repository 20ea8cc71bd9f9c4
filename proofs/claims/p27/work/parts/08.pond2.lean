theorem mX1_read_0_0 : (Cond.fieldLink RX1 9 "SaltRow$Pond" "area" "I") ∈ wsX1_read := by decide +kernel
theorem iX1_read_X1_0 : ∀ w ∈ wsX10, w ∈ wsX1_read := by decide +kernel
set_option maxHeartbeats 4000000 in
set_option maxRecDepth 100000 in
theorem zX1_read_0 (l : Launch) (D : va_G) (a : Nat → Nat) (cs : Nat → ClassId) (σ : sS) (i : Nat) (hi : 5 ≤ i ∧ i < 21) (f : Nat → Int32)  : sMi l yX1_read wsX1_read ({ frames := 2, cells := 0, slots := 0, locals := 45 }) D a cs [.ref (a i), .int (nI 0)] (va_up σ i f) (f_X1_read f 0) (va_up σ i f) := by
  intro sz
  refine Met.ofW (cc := cX1_read) (maxL := 2) (ret := (some .int)) (by decide) rfl ?_
  intro p e s m args below meth c s₁ B hml hv
  obtain ⟨rfl, hsz, hv2⟩ := hv
  have hv3 : sB D a cs (va_up σ i f) sz s := ⟨hsz, hv2⟩
  subst hsz
  have hw := sH_start hv3
  obtain ⟨-, -, hK, -, hN⟩ := hv3
  have hx := B.exec
  have hb := B.bytes
  have hr := B.returns
  have hts := atoms_spec (ws := wsX1_read) B.pre
  have hown : s.vm.findClass RX1 = some m.cls := findClass_of_methodNamed B.named
  have hlocks := B.notSynchronized
  have hA : ∀ q : Nat, s.heap.size ≤ q → sA a s.heap.size q := sA_new
  have hl := lv_entry ([.ref (a i), .int (nI 0)]) (n := 2) (Nat.le_of_ble_eq_true rfl)
  rw [lg_entry_eq]
  generalize (lg_sl ([.ref (a i), .int (nI 0)]) ++ List.replicate (2 - (lg_sl ([.ref (a i), .int (nI 0)])).length) Slot.unset).toArray = ls at hl ⊢
  have hl : lv_has ls 2 [(0, .ref (a i)), (1, .int (nI 0))] := hl
  refine lv_iload_n hx hb dX1_read_0 rfl (lv_at hl 1 rfl) ?_
  refine lv_tableIn (tgt := 56) hx hb dX1_read_1 (by decide) (by decide) (off := 55) (by decide +kernel) (by decide) ?_
  refine lv_aload_n hx hb dX1_read_56 rfl (lv_at hl 0 rfl) ?_
  refine sg_pf hx hb hts iX1_read_X1_0 hown hK hw hi 0 (f 0) rfl (by decide) (hts _ mX1_read_0_0) dX1_read_57 ?_
  exact se_i hx hb hr hlocks hw (by rfl) (by rfl) dX1_read_60
theorem mX1_read_0_1 : (Cond.fieldLink RX1 15 "SaltRow$Pond" "brine" "I") ∈ wsX1_read := by decide +kernel
theorem iX1_read_X1_1 : ∀ w ∈ wsX10, w ∈ wsX1_read := by decide +kernel
set_option maxHeartbeats 4000000 in
set_option maxRecDepth 100000 in
theorem zX1_read_1 (l : Launch) (D : va_G) (a : Nat → Nat) (cs : Nat → ClassId) (σ : sS) (i : Nat) (hi : 5 ≤ i ∧ i < 21) (f : Nat → Int32)  : sMi l yX1_read wsX1_read ({ frames := 2, cells := 0, slots := 0, locals := 45 }) D a cs [.ref (a i), .int (nI 1)] (va_up σ i f) (f_X1_read f 1) (va_up σ i f) := by
  intro sz
  refine Met.ofW (cc := cX1_read) (maxL := 2) (ret := (some .int)) (by decide) rfl ?_
  intro p e s m args below meth c s₁ B hml hv
  obtain ⟨rfl, hsz, hv2⟩ := hv
  have hv3 : sB D a cs (va_up σ i f) sz s := ⟨hsz, hv2⟩
  subst hsz
  have hw := sH_start hv3
  obtain ⟨-, -, hK, -, hN⟩ := hv3
  have hx := B.exec
  have hb := B.bytes
  have hr := B.returns
  have hts := atoms_spec (ws := wsX1_read) B.pre
  have hown : s.vm.findClass RX1 = some m.cls := findClass_of_methodNamed B.named
  have hlocks := B.notSynchronized
  have hA : ∀ q : Nat, s.heap.size ≤ q → sA a s.heap.size q := sA_new
  have hl := lv_entry ([.ref (a i), .int (nI 1)]) (n := 2) (Nat.le_of_ble_eq_true rfl)
  rw [lg_entry_eq]
  generalize (lg_sl ([.ref (a i), .int (nI 1)]) ++ List.replicate (2 - (lg_sl ([.ref (a i), .int (nI 1)])).length) Slot.unset).toArray = ls at hl ⊢
  have hl : lv_has ls 2 [(0, .ref (a i)), (1, .int (nI 1))] := hl
  refine lv_iload_n hx hb dX1_read_0 rfl (lv_at hl 1 rfl) ?_
  refine lv_tableIn (tgt := 61) hx hb dX1_read_1 (by decide) (by decide) (off := 60) (by decide +kernel) (by decide) ?_
  refine lv_aload_n hx hb dX1_read_61 rfl (lv_at hl 0 rfl) ?_
  refine sg_pf hx hb hts iX1_read_X1_1 hown hK hw hi 1 (f 1) rfl (by decide) (hts _ mX1_read_0_1) dX1_read_62 ?_
  exact se_i hx hb hr hlocks hw (by rfl) (by rfl) dX1_read_65
theorem mX1_read_0_2 : (Cond.fieldLink RX1 22 "SaltRow$Pond" "salt" "I") ∈ wsX1_read := by decide +kernel
theorem iX1_read_X1_2 : ∀ w ∈ wsX10, w ∈ wsX1_read := by decide +kernel
set_option maxHeartbeats 4000000 in
set_option maxRecDepth 100000 in
theorem zX1_read_2 (l : Launch) (D : va_G) (a : Nat → Nat) (cs : Nat → ClassId) (σ : sS) (i : Nat) (hi : 5 ≤ i ∧ i < 21) (f : Nat → Int32)  : sMi l yX1_read wsX1_read ({ frames := 2, cells := 0, slots := 0, locals := 45 }) D a cs [.ref (a i), .int (nI 2)] (va_up σ i f) (f_X1_read f 2) (va_up σ i f) := by
  intro sz
  refine Met.ofW (cc := cX1_read) (maxL := 2) (ret := (some .int)) (by decide) rfl ?_
  intro p e s m args below meth c s₁ B hml hv
  obtain ⟨rfl, hsz, hv2⟩ := hv
  have hv3 : sB D a cs (va_up σ i f) sz s := ⟨hsz, hv2⟩
  subst hsz
  have hw := sH_start hv3
  obtain ⟨-, -, hK, -, hN⟩ := hv3
  have hx := B.exec
  have hb := B.bytes
  have hr := B.returns
  have hts := atoms_spec (ws := wsX1_read) B.pre
  have hown : s.vm.findClass RX1 = some m.cls := findClass_of_methodNamed B.named
  have hlocks := B.notSynchronized
  have hA : ∀ q : Nat, s.heap.size ≤ q → sA a s.heap.size q := sA_new
  have hl := lv_entry ([.ref (a i), .int (nI 2)]) (n := 2) (Nat.le_of_ble_eq_true rfl)
  rw [lg_entry_eq]
  generalize (lg_sl ([.ref (a i), .int (nI 2)]) ++ List.replicate (2 - (lg_sl ([.ref (a i), .int (nI 2)])).length) Slot.unset).toArray = ls at hl ⊢
  have hl : lv_has ls 2 [(0, .ref (a i)), (1, .int (nI 2))] := hl
  refine lv_iload_n hx hb dX1_read_0 rfl (lv_at hl 1 rfl) ?_
  refine lv_tableIn (tgt := 66) hx hb dX1_read_1 (by decide) (by decide) (off := 65) (by decide +kernel) (by decide) ?_
  refine lv_aload_n hx hb dX1_read_66 rfl (lv_at hl 0 rfl) ?_
  refine sg_pf hx hb hts iX1_read_X1_2 hown hK hw hi 2 (f 2) rfl (by decide) (hts _ mX1_read_0_2) dX1_read_67 ?_
  exact se_i hx hb hr hlocks hw (by rfl) (by rfl) dX1_read_70
theorem mX1_read_0_3 : (Cond.fieldLink RX1 36 "SaltRow$Pond" "gypsum" "I") ∈ wsX1_read := by decide +kernel
theorem iX1_read_X1_3 : ∀ w ∈ wsX10, w ∈ wsX1_read := by decide +kernel
set_option maxHeartbeats 4000000 in
set_option maxRecDepth 100000 in
theorem zX1_read_3 (l : Launch) (D : va_G) (a : Nat → Nat) (cs : Nat → ClassId) (σ : sS) (i : Nat) (hi : 5 ≤ i ∧ i < 21) (f : Nat → Int32)  : sMi l yX1_read wsX1_read ({ frames := 2, cells := 0, slots := 0, locals := 45 }) D a cs [.ref (a i), .int (nI 3)] (va_up σ i f) (f_X1_read f 3) (va_up σ i f) := by
  intro sz
  refine Met.ofW (cc := cX1_read) (maxL := 2) (ret := (some .int)) (by decide) rfl ?_
  intro p e s m args below meth c s₁ B hml hv
  obtain ⟨rfl, hsz, hv2⟩ := hv
  have hv3 : sB D a cs (va_up σ i f) sz s := ⟨hsz, hv2⟩
  subst hsz
  have hw := sH_start hv3
  obtain ⟨-, -, hK, -, hN⟩ := hv3
  have hx := B.exec
  have hb := B.bytes
  have hr := B.returns
  have hts := atoms_spec (ws := wsX1_read) B.pre
  have hown : s.vm.findClass RX1 = some m.cls := findClass_of_methodNamed B.named
  have hlocks := B.notSynchronized
  have hA : ∀ q : Nat, s.heap.size ≤ q → sA a s.heap.size q := sA_new
  have hl := lv_entry ([.ref (a i), .int (nI 3)]) (n := 2) (Nat.le_of_ble_eq_true rfl)
  rw [lg_entry_eq]
  generalize (lg_sl ([.ref (a i), .int (nI 3)]) ++ List.replicate (2 - (lg_sl ([.ref (a i), .int (nI 3)])).length) Slot.unset).toArray = ls at hl ⊢
  have hl : lv_has ls 2 [(0, .ref (a i)), (1, .int (nI 3))] := hl
  refine lv_iload_n hx hb dX1_read_0 rfl (lv_at hl 1 rfl) ?_
  refine lv_tableIn (tgt := 71) hx hb dX1_read_1 (by decide) (by decide) (off := 70) (by decide +kernel) (by decide) ?_
  refine lv_aload_n hx hb dX1_read_71 rfl (lv_at hl 0 rfl) ?_
  refine sg_pf hx hb hts iX1_read_X1_3 hown hK hw hi 3 (f 3) rfl (by decide) (hts _ mX1_read_0_3) dX1_read_72 ?_
  exact se_i hx hb hr hlocks hw (by rfl) (by rfl) dX1_read_75
theorem mX1_read_0_4 : (Cond.fieldLink RX1 25 "SaltRow$Pond" "bitter" "I") ∈ wsX1_read := by decide +kernel
theorem iX1_read_X1_4 : ∀ w ∈ wsX10, w ∈ wsX1_read := by decide +kernel
set_option maxHeartbeats 4000000 in
set_option maxRecDepth 100000 in
theorem zX1_read_4 (l : Launch) (D : va_G) (a : Nat → Nat) (cs : Nat → ClassId) (σ : sS) (i : Nat) (hi : 5 ≤ i ∧ i < 21) (f : Nat → Int32)  : sMi l yX1_read wsX1_read ({ frames := 2, cells := 0, slots := 0, locals := 45 }) D a cs [.ref (a i), .int (nI 4)] (va_up σ i f) (f_X1_read f 4) (va_up σ i f) := by
  intro sz
  refine Met.ofW (cc := cX1_read) (maxL := 2) (ret := (some .int)) (by decide) rfl ?_
  intro p e s m args below meth c s₁ B hml hv
  obtain ⟨rfl, hsz, hv2⟩ := hv
  have hv3 : sB D a cs (va_up σ i f) sz s := ⟨hsz, hv2⟩
  subst hsz
  have hw := sH_start hv3
  obtain ⟨-, -, hK, -, hN⟩ := hv3
  have hx := B.exec
  have hb := B.bytes
  have hr := B.returns
  have hts := atoms_spec (ws := wsX1_read) B.pre
  have hown : s.vm.findClass RX1 = some m.cls := findClass_of_methodNamed B.named
  have hlocks := B.notSynchronized
  have hA : ∀ q : Nat, s.heap.size ≤ q → sA a s.heap.size q := sA_new
  have hl := lv_entry ([.ref (a i), .int (nI 4)]) (n := 2) (Nat.le_of_ble_eq_true rfl)
  rw [lg_entry_eq]
  generalize (lg_sl ([.ref (a i), .int (nI 4)]) ++ List.replicate (2 - (lg_sl ([.ref (a i), .int (nI 4)])).length) Slot.unset).toArray = ls at hl ⊢
  have hl : lv_has ls 2 [(0, .ref (a i)), (1, .int (nI 4))] := hl
  refine lv_iload_n hx hb dX1_read_0 rfl (lv_at hl 1 rfl) ?_
  refine lv_tableIn (tgt := 76) hx hb dX1_read_1 (by decide) (by decide) (off := 75) (by decide +kernel) (by decide) ?_
  refine lv_aload_n hx hb dX1_read_76 rfl (lv_at hl 0 rfl) ?_
  refine sg_pf hx hb hts iX1_read_X1_4 hown hK hw hi 4 (f 4) rfl (by decide) (hts _ mX1_read_0_4) dX1_read_77 ?_
  exact se_i hx hb hr hlocks hw (by rfl) (by rfl) dX1_read_80
theorem mX1_read_0_5 : (Cond.fieldLink RX1 39 "SaltRow$Pond" "fresh" "I") ∈ wsX1_read := by decide +kernel
theorem iX1_read_X1_5 : ∀ w ∈ wsX10, w ∈ wsX1_read := by decide +kernel
set_option maxHeartbeats 4000000 in
set_option maxRecDepth 100000 in
theorem zX1_read_5 (l : Launch) (D : va_G) (a : Nat → Nat) (cs : Nat → ClassId) (σ : sS) (i : Nat) (hi : 5 ≤ i ∧ i < 21) (f : Nat → Int32)  : sMi l yX1_read wsX1_read ({ frames := 2, cells := 0, slots := 0, locals := 45 }) D a cs [.ref (a i), .int (nI 5)] (va_up σ i f) (f_X1_read f 5) (va_up σ i f) := by
  intro sz
  refine Met.ofW (cc := cX1_read) (maxL := 2) (ret := (some .int)) (by decide) rfl ?_
  intro p e s m args below meth c s₁ B hml hv
  obtain ⟨rfl, hsz, hv2⟩ := hv
  have hv3 : sB D a cs (va_up σ i f) sz s := ⟨hsz, hv2⟩
  subst hsz
  have hw := sH_start hv3
  obtain ⟨-, -, hK, -, hN⟩ := hv3
  have hx := B.exec
  have hb := B.bytes
  have hr := B.returns
  have hts := atoms_spec (ws := wsX1_read) B.pre
  have hown : s.vm.findClass RX1 = some m.cls := findClass_of_methodNamed B.named
  have hlocks := B.notSynchronized
  have hA : ∀ q : Nat, s.heap.size ≤ q → sA a s.heap.size q := sA_new
  have hl := lv_entry ([.ref (a i), .int (nI 5)]) (n := 2) (Nat.le_of_ble_eq_true rfl)
  rw [lg_entry_eq]
  generalize (lg_sl ([.ref (a i), .int (nI 5)]) ++ List.replicate (2 - (lg_sl ([.ref (a i), .int (nI 5)])).length) Slot.unset).toArray = ls at hl ⊢
  have hl : lv_has ls 2 [(0, .ref (a i)), (1, .int (nI 5))] := hl
  refine lv_iload_n hx hb dX1_read_0 rfl (lv_at hl 1 rfl) ?_
  refine lv_tableIn (tgt := 81) hx hb dX1_read_1 (by decide) (by decide) (off := 80) (by decide +kernel) (by decide) ?_
  refine lv_aload_n hx hb dX1_read_81 rfl (lv_at hl 0 rfl) ?_
  refine sg_pf hx hb hts iX1_read_X1_5 hown hK hw hi 5 (f 5) rfl (by decide) (hts _ mX1_read_0_5) dX1_read_82 ?_
  exact se_i hx hb hr hlocks hw (by rfl) (by rfl) dX1_read_85
theorem mX1_read_0_6 : (Cond.fieldLink RX1 42 "SaltRow$Pond" "crustSalt" "I") ∈ wsX1_read := by decide +kernel
theorem iX1_read_X1_6 : ∀ w ∈ wsX10, w ∈ wsX1_read := by decide +kernel
set_option maxHeartbeats 4000000 in
set_option maxRecDepth 100000 in
theorem zX1_read_6 (l : Launch) (D : va_G) (a : Nat → Nat) (cs : Nat → ClassId) (σ : sS) (i : Nat) (hi : 5 ≤ i ∧ i < 21) (f : Nat → Int32)  : sMi l yX1_read wsX1_read ({ frames := 2, cells := 0, slots := 0, locals := 45 }) D a cs [.ref (a i), .int (nI 6)] (va_up σ i f) (f_X1_read f 6) (va_up σ i f) := by
  intro sz
  refine Met.ofW (cc := cX1_read) (maxL := 2) (ret := (some .int)) (by decide) rfl ?_
  intro p e s m args below meth c s₁ B hml hv
  obtain ⟨rfl, hsz, hv2⟩ := hv
  have hv3 : sB D a cs (va_up σ i f) sz s := ⟨hsz, hv2⟩
  subst hsz
  have hw := sH_start hv3
  obtain ⟨-, -, hK, -, hN⟩ := hv3
  have hx := B.exec
  have hb := B.bytes
  have hr := B.returns
  have hts := atoms_spec (ws := wsX1_read) B.pre
  have hown : s.vm.findClass RX1 = some m.cls := findClass_of_methodNamed B.named
  have hlocks := B.notSynchronized
  have hA : ∀ q : Nat, s.heap.size ≤ q → sA a s.heap.size q := sA_new
  have hl := lv_entry ([.ref (a i), .int (nI 6)]) (n := 2) (Nat.le_of_ble_eq_true rfl)
  rw [lg_entry_eq]
  generalize (lg_sl ([.ref (a i), .int (nI 6)]) ++ List.replicate (2 - (lg_sl ([.ref (a i), .int (nI 6)])).length) Slot.unset).toArray = ls at hl ⊢
  have hl : lv_has ls 2 [(0, .ref (a i)), (1, .int (nI 6))] := hl
  refine lv_iload_n hx hb dX1_read_0 rfl (lv_at hl 1 rfl) ?_
  refine lv_tableIn (tgt := 86) hx hb dX1_read_1 (by decide) (by decide) (off := 85) (by decide +kernel) (by decide) ?_
  refine lv_aload_n hx hb dX1_read_86 rfl (lv_at hl 0 rfl) ?_
  refine sg_pf hx hb hts iX1_read_X1_6 hown hK hw hi 6 (f 6) rfl (by decide) (hts _ mX1_read_0_6) dX1_read_87 ?_
  exact se_i hx hb hr hlocks hw (by rfl) (by rfl) dX1_read_90
theorem mX1_read_0_7 : (Cond.fieldLink RX1 45 "SaltRow$Pond" "crustDirt" "I") ∈ wsX1_read := by decide +kernel
theorem iX1_read_X1_7 : ∀ w ∈ wsX10, w ∈ wsX1_read := by decide +kernel
set_option maxHeartbeats 4000000 in
set_option maxRecDepth 100000 in
theorem zX1_read_7 (l : Launch) (D : va_G) (a : Nat → Nat) (cs : Nat → ClassId) (σ : sS) (i : Nat) (hi : 5 ≤ i ∧ i < 21) (f : Nat → Int32)  : sMi l yX1_read wsX1_read ({ frames := 2, cells := 0, slots := 0, locals := 45 }) D a cs [.ref (a i), .int (nI 7)] (va_up σ i f) (f_X1_read f 7) (va_up σ i f) := by
  intro sz
  refine Met.ofW (cc := cX1_read) (maxL := 2) (ret := (some .int)) (by decide) rfl ?_
  intro p e s m args below meth c s₁ B hml hv
  obtain ⟨rfl, hsz, hv2⟩ := hv
  have hv3 : sB D a cs (va_up σ i f) sz s := ⟨hsz, hv2⟩
  subst hsz
  have hw := sH_start hv3
  obtain ⟨-, -, hK, -, hN⟩ := hv3
  have hx := B.exec
  have hb := B.bytes
  have hr := B.returns
  have hts := atoms_spec (ws := wsX1_read) B.pre
  have hown : s.vm.findClass RX1 = some m.cls := findClass_of_methodNamed B.named
  have hlocks := B.notSynchronized
  have hA : ∀ q : Nat, s.heap.size ≤ q → sA a s.heap.size q := sA_new
  have hl := lv_entry ([.ref (a i), .int (nI 7)]) (n := 2) (Nat.le_of_ble_eq_true rfl)
  rw [lg_entry_eq]
  generalize (lg_sl ([.ref (a i), .int (nI 7)]) ++ List.replicate (2 - (lg_sl ([.ref (a i), .int (nI 7)])).length) Slot.unset).toArray = ls at hl ⊢
  have hl : lv_has ls 2 [(0, .ref (a i)), (1, .int (nI 7))] := hl
  refine lv_iload_n hx hb dX1_read_0 rfl (lv_at hl 1 rfl) ?_
  refine lv_tableIn (tgt := 91) hx hb dX1_read_1 (by decide) (by decide) (off := 90) (by decide +kernel) (by decide) ?_
  refine lv_aload_n hx hb dX1_read_91 rfl (lv_at hl 0 rfl) ?_
  refine sg_pf hx hb hts iX1_read_X1_7 hown hK hw hi 7 (f 7) rfl (by decide) (hts _ mX1_read_0_7) dX1_read_92 ?_
  exact se_i hx hb hr hlocks hw (by rfl) (by rfl) dX1_read_95
set_option maxHeartbeats 4000000 in
set_option maxRecDepth 100000 in
theorem zX1_read_8 (l : Launch) (D : va_G) (a : Nat → Nat) (cs : Nat → ClassId) (σ : sS) (i : Nat) (hi : 5 ≤ i ∧ i < 21) (f : Nat → Int32)  : sMi l yX1_read wsX1_read ({ frames := 2, cells := 0, slots := 0, locals := 45 }) D a cs [.ref (a i), .int (nI 8)] (va_up σ i f) (f_X1_read f 8) (va_up σ i f) := by
  intro sz
  refine Met.ofW (cc := cX1_read) (maxL := 2) (ret := (some .int)) (by decide) rfl ?_
  intro p e s m args below meth c s₁ B hml hv
  obtain ⟨rfl, hsz, hv2⟩ := hv
  have hv3 : sB D a cs (va_up σ i f) sz s := ⟨hsz, hv2⟩
  subst hsz
  have hw := sH_start hv3
  obtain ⟨-, -, hK, -, hN⟩ := hv3
  have hx := B.exec
  have hb := B.bytes
  have hr := B.returns
  have hts := atoms_spec (ws := wsX1_read) B.pre
  have hown : s.vm.findClass RX1 = some m.cls := findClass_of_methodNamed B.named
  have hlocks := B.notSynchronized
  have hA : ∀ q : Nat, s.heap.size ≤ q → sA a s.heap.size q := sA_new
  have hl := lv_entry ([.ref (a i), .int (nI 8)]) (n := 2) (Nat.le_of_ble_eq_true rfl)
  rw [lg_entry_eq]
  generalize (lg_sl ([.ref (a i), .int (nI 8)]) ++ List.replicate (2 - (lg_sl ([.ref (a i), .int (nI 8)])).length) Slot.unset).toArray = ls at hl ⊢
  have hl : lv_has ls 2 [(0, .ref (a i)), (1, .int (nI 8))] := hl
  refine lv_iload_n hx hb dX1_read_0 rfl (lv_at hl 1 rfl) ?_
  refine lv_tableIn (tgt := 96) hx hb dX1_read_1 (by decide) (by decide) (off := 95) (by decide +kernel) (by decide) ?_
  refine lv_aload_n hx hb dX1_read_96 rfl (lv_at hl 0 rfl) ?_
  refine sc_i (sr_V (i := i) (As := []) (rest := []) ⟨hx, hb, hml, hown, hts⟩ (zX1_level l D a cs _ i hi _ _) (cwV 0 hts gX1_read_X1_level rfl rfl rfl (by decide +kernel) ⟨Nat.le_of_ble_eq_true rfl, Nat.le_of_ble_eq_true rfl⟩) hK hN hw (by omega) (sE_p hi) kcX1 rfl hl.1 (Nat.le_of_ble_eq_true rfl) dX1_read_97 ⟨Nat.le_of_ble_eq_true rfl, Nat.le_of_ble_eq_true rfl⟩) hw hA (fun H locs hw => ?_)
  exact se_i hx hb hr hlocks hw (by rfl) (by rfl) dX1_read_100
set_option maxHeartbeats 4000000 in
set_option maxRecDepth 100000 in
theorem zX1_read_9 (l : Launch) (D : va_G) (a : Nat → Nat) (cs : Nat → ClassId) (σ : sS) (i : Nat) (hi : 5 ≤ i ∧ i < 21) (f : Nat → Int32)  : sMi l yX1_read wsX1_read ({ frames := 2, cells := 0, slots := 0, locals := 45 }) D a cs [.ref (a i), .int (nI 9)] (va_up σ i f) (f_X1_read f 9) (va_up σ i f) := by
  intro sz
  refine Met.ofW (cc := cX1_read) (maxL := 2) (ret := (some .int)) (by decide) rfl ?_
  intro p e s m args below meth c s₁ B hml hv
  obtain ⟨rfl, hsz, hv2⟩ := hv
  have hv3 : sB D a cs (va_up σ i f) sz s := ⟨hsz, hv2⟩
  subst hsz
  have hw := sH_start hv3
  obtain ⟨-, -, hK, -, hN⟩ := hv3
  have hx := B.exec
  have hb := B.bytes
  have hr := B.returns
  have hts := atoms_spec (ws := wsX1_read) B.pre
  have hown : s.vm.findClass RX1 = some m.cls := findClass_of_methodNamed B.named
  have hlocks := B.notSynchronized
  have hA : ∀ q : Nat, s.heap.size ≤ q → sA a s.heap.size q := sA_new
  have hl := lv_entry ([.ref (a i), .int (nI 9)]) (n := 2) (Nat.le_of_ble_eq_true rfl)
  rw [lg_entry_eq]
  generalize (lg_sl ([.ref (a i), .int (nI 9)]) ++ List.replicate (2 - (lg_sl ([.ref (a i), .int (nI 9)])).length) Slot.unset).toArray = ls at hl ⊢
  have hl : lv_has ls 2 [(0, .ref (a i)), (1, .int (nI 9))] := hl
  refine lv_iload_n hx hb dX1_read_0 rfl (lv_at hl 1 rfl) ?_
  refine lv_tableIn (tgt := 101) hx hb dX1_read_1 (by decide) (by decide) (off := 100) (by decide +kernel) (by decide) ?_
  refine lv_aload_n hx hb dX1_read_101 rfl (lv_at hl 0 rfl) ?_
  refine sc_i (sr_V (i := i) (As := []) (rest := []) ⟨hx, hb, hml, hown, hts⟩ (zX1_strength l D a cs _ i hi _ _) (cwV 0 hts gX1_read_X1_strength rfl rfl rfl (by decide +kernel) ⟨Nat.le_of_ble_eq_true rfl, Nat.le_of_ble_eq_true rfl⟩) hK hN hw (by omega) (sE_p hi) kcX1 rfl hl.1 (Nat.le_of_ble_eq_true rfl) dX1_read_102 ⟨Nat.le_of_ble_eq_true rfl, Nat.le_of_ble_eq_true rfl⟩) hw hA (fun H locs hw => ?_)
  exact se_i hx hb hr hlocks hw (by rfl) (by rfl) dX1_read_105
theorem mX1_read_0_10 : (Cond.fieldLink RX1 55 "SaltRow$Pond" "wasHarvested" "Z") ∈ wsX1_read := by decide +kernel
theorem iX1_read_X1_10 : ∀ w ∈ wsX10, w ∈ wsX1_read := by decide +kernel
set_option maxHeartbeats 4000000 in
set_option maxRecDepth 100000 in
theorem zX1_read_10 (l : Launch) (D : va_G) (a : Nat → Nat) (cs : Nat → ClassId) (σ : sS) (i : Nat) (hi : 5 ≤ i ∧ i < 21) (f : Nat → Int32)  : sMi l yX1_read wsX1_read ({ frames := 2, cells := 0, slots := 0, locals := 45 }) D a cs [.ref (a i), .int (nI 10)] (va_up σ i f) (f_X1_read f 10) (va_up σ i f) := by
  intro sz
  refine Met.ofW (cc := cX1_read) (maxL := 2) (ret := (some .int)) (by decide) rfl ?_
  intro p e s m args below meth c s₁ B hml hv
  obtain ⟨rfl, hsz, hv2⟩ := hv
  have hv3 : sB D a cs (va_up σ i f) sz s := ⟨hsz, hv2⟩
  subst hsz
  have hw := sH_start hv3
  obtain ⟨-, -, hK, -, hN⟩ := hv3
  have hx := B.exec
  have hb := B.bytes
  have hr := B.returns
  have hts := atoms_spec (ws := wsX1_read) B.pre
  have hown : s.vm.findClass RX1 = some m.cls := findClass_of_methodNamed B.named
  have hlocks := B.notSynchronized
  have hA : ∀ q : Nat, s.heap.size ≤ q → sA a s.heap.size q := sA_new
  have hl := lv_entry ([.ref (a i), .int (nI 10)]) (n := 2) (Nat.le_of_ble_eq_true rfl)
  rw [lg_entry_eq]
  generalize (lg_sl ([.ref (a i), .int (nI 10)]) ++ List.replicate (2 - (lg_sl ([.ref (a i), .int (nI 10)])).length) Slot.unset).toArray = ls at hl ⊢
  have hl : lv_has ls 2 [(0, .ref (a i)), (1, .int (nI 10))] := hl
  refine lv_iload_n hx hb dX1_read_0 rfl (lv_at hl 1 rfl) ?_
  refine lv_tableOut (tgt := 106) hx hb dX1_read_1 (by decide) (by decide) ?_
  refine lv_aload_n hx hb dX1_read_106 rfl (lv_at hl 0 rfl) ?_
  refine sg_pf hx hb hts iX1_read_X1_10 hown hK hw hi 11 (f 11) rfl (by decide) (hts _ mX1_read_0_10) dX1_read_107 ?_
  refine lv_if_eq (tgt := 117) hx hb dX1_read_110 (by decide) (fun c1 => ?_) (fun c1 => ?_)
  · refine lv_iconst (v := 0) hx hb dX1_read_117 (by decide) ?_
    exact se_i hx hb hr hlocks hw (by show _ = f_X1_harv f; unfold f_X1_harv; rw [if_pos c1]) (by rfl) dX1_read_118
  · refine lv_iconst (v := 1) hx hb dX1_read_113 (by decide) ?_
    refine lv_goto (tgt := 118) hx hb dX1_read_114 (by decide) ?_
    exact se_i hx hb hr hlocks hw (by show _ = f_X1_harv f; unfold f_X1_harv; rw [if_neg c1]) (by rfl) dX1_read_118
theorem mX1_copyFrom_0 : (Cond.fieldLink RX1 9 "SaltRow$Pond" "area" "I") ∈ wsX1_copyFrom := by decide +kernel
theorem iX1_copyFrom_X1 : ∀ w ∈ wsX10, w ∈ wsX1_copyFrom := by decide +kernel
theorem mX1_copyFrom_2 : (Cond.fieldLink RX1 15 "SaltRow$Pond" "brine" "I") ∈ wsX1_copyFrom := by decide +kernel
theorem mX1_copyFrom_3 : (Cond.fieldLink RX1 22 "SaltRow$Pond" "salt" "I") ∈ wsX1_copyFrom := by decide +kernel
theorem mX1_copyFrom_4 : (Cond.fieldLink RX1 36 "SaltRow$Pond" "gypsum" "I") ∈ wsX1_copyFrom := by decide +kernel
theorem mX1_copyFrom_5 : (Cond.fieldLink RX1 25 "SaltRow$Pond" "bitter" "I") ∈ wsX1_copyFrom := by decide +kernel
theorem mX1_copyFrom_6 : (Cond.fieldLink RX1 39 "SaltRow$Pond" "fresh" "I") ∈ wsX1_copyFrom := by decide +kernel
theorem mX1_copyFrom_7 : (Cond.fieldLink RX1 42 "SaltRow$Pond" "crustSalt" "I") ∈ wsX1_copyFrom := by decide +kernel
theorem mX1_copyFrom_8 : (Cond.fieldLink RX1 45 "SaltRow$Pond" "crustDirt" "I") ∈ wsX1_copyFrom := by decide +kernel
theorem mX1_copyFrom_9 : (Cond.fieldLink RX1 59 "SaltRow$Pond" "saltFallen" "I") ∈ wsX1_copyFrom := by decide +kernel
theorem mX1_copyFrom_10 : (Cond.fieldLink RX1 62 "SaltRow$Pond" "isOpen" "Z") ∈ wsX1_copyFrom := by decide +kernel
theorem mX1_copyFrom_11 : (Cond.fieldLink RX1 65 "SaltRow$Pond" "isCovered" "Z") ∈ wsX1_copyFrom := by decide +kernel
theorem mX1_copyFrom_12 : (Cond.fieldLink RX1 55 "SaltRow$Pond" "wasHarvested" "Z") ∈ wsX1_copyFrom := by decide +kernel
set_option maxHeartbeats 4000000 in
set_option maxRecDepth 100000 in
theorem zX1_copyFrom (l : Launch) (D : va_G) (a : Nat → Nat) (cs : Nat → ClassId) (σ : sS) (i j : Nat) (hi : 5 ≤ i ∧ i < 21) (hj : 5 ≤ j ∧ j < 21) (hij : j ≠ i) (f : Nat → Int32) (hz : ∀ k, 9 ≤ k → k < 12 → σ j k = 0 ∨ σ j k = 1) : sMv l yX1_copyFrom wsX1_copyFrom ({ frames := 0, cells := 0, slots := 0, locals := 0 }) D a cs [.ref (a i), .ref (a j)] (va_up σ i f) (va_up σ i (σ j)) := by
  intro sz
  refine Met.ofW (cc := cX1_copyFrom) (maxL := 2) (ret := none) (by decide) rfl ?_
  intro p e s m args below meth c s₁ B hml hv
  obtain ⟨rfl, hsz, hv2⟩ := hv
  have hv3 : sB D a cs (va_up σ i f) sz s := ⟨hsz, hv2⟩
  subst hsz
  have hw := sH_start hv3
  obtain ⟨-, -, hK, -, hN⟩ := hv3
  have hx := B.exec
  have hb := B.bytes
  have hr := B.returns
  have hts := atoms_spec (ws := wsX1_copyFrom) B.pre
  have hown : s.vm.findClass RX1 = some m.cls := findClass_of_methodNamed B.named
  have hlocks := B.notSynchronized
  have hA : ∀ q : Nat, s.heap.size ≤ q → sA a s.heap.size q := sA_new
  have hl := lv_entry ([.ref (a i), .ref (a j)]) (n := 2) (Nat.le_of_ble_eq_true rfl)
  rw [lg_entry_eq]
  generalize (lg_sl ([.ref (a i), .ref (a j)]) ++ List.replicate (2 - (lg_sl ([.ref (a i), .ref (a j)])).length) Slot.unset).toArray = ls at hl ⊢
  have hl : lv_has ls 2 [(0, .ref (a i)), (1, .ref (a j))] := hl
  refine lv_aload_n hx hb dX1_copyFrom_0 rfl (lv_at hl 0 rfl) ?_
  refine lv_aload_n hx hb dX1_copyFrom_1 rfl (lv_at hl 1 rfl) ?_
  refine sg_pn hx hb hts iX1_copyFrom_X1 hown hK hw hj hij 0 (by decide) (hts _ mX1_copyFrom_0) dX1_copyFrom_2 ?_
  refine sp_pf hx hb hts iX1_copyFrom_X1 hown hK hw hi 0 (by decide) (hts _ mX1_copyFrom_0) dX1_copyFrom_5 (fun H locs hw => ?_)
  refine lv_aload_n hx hb dX1_copyFrom_8 rfl (lv_at hl 0 rfl) ?_
  refine lv_aload_n hx hb dX1_copyFrom_9 rfl (lv_at hl 1 rfl) ?_
  refine sg_pn hx hb hts iX1_copyFrom_X1 hown hK hw hj hij 1 (by decide) (hts _ mX1_copyFrom_2) dX1_copyFrom_10 ?_
  refine sp_pf hx hb hts iX1_copyFrom_X1 hown hK hw hi 1 (by decide) (hts _ mX1_copyFrom_2) dX1_copyFrom_13 (fun H locs hw => ?_)
  refine lv_aload_n hx hb dX1_copyFrom_16 rfl (lv_at hl 0 rfl) ?_
  refine lv_aload_n hx hb dX1_copyFrom_17 rfl (lv_at hl 1 rfl) ?_
  refine sg_pn hx hb hts iX1_copyFrom_X1 hown hK hw hj hij 2 (by decide) (hts _ mX1_copyFrom_3) dX1_copyFrom_18 ?_
  refine sp_pf hx hb hts iX1_copyFrom_X1 hown hK hw hi 2 (by decide) (hts _ mX1_copyFrom_3) dX1_copyFrom_21 (fun H locs hw => ?_)
  refine lv_aload_n hx hb dX1_copyFrom_24 rfl (lv_at hl 0 rfl) ?_
  refine lv_aload_n hx hb dX1_copyFrom_25 rfl (lv_at hl 1 rfl) ?_
  refine sg_pn hx hb hts iX1_copyFrom_X1 hown hK hw hj hij 3 (by decide) (hts _ mX1_copyFrom_4) dX1_copyFrom_26 ?_
  refine sp_pf hx hb hts iX1_copyFrom_X1 hown hK hw hi 3 (by decide) (hts _ mX1_copyFrom_4) dX1_copyFrom_29 (fun H locs hw => ?_)
  refine lv_aload_n hx hb dX1_copyFrom_32 rfl (lv_at hl 0 rfl) ?_
  refine lv_aload_n hx hb dX1_copyFrom_33 rfl (lv_at hl 1 rfl) ?_
  refine sg_pn hx hb hts iX1_copyFrom_X1 hown hK hw hj hij 4 (by decide) (hts _ mX1_copyFrom_5) dX1_copyFrom_34 ?_
  refine sp_pf hx hb hts iX1_copyFrom_X1 hown hK hw hi 4 (by decide) (hts _ mX1_copyFrom_5) dX1_copyFrom_37 (fun H locs hw => ?_)
  refine lv_aload_n hx hb dX1_copyFrom_40 rfl (lv_at hl 0 rfl) ?_
  refine lv_aload_n hx hb dX1_copyFrom_41 rfl (lv_at hl 1 rfl) ?_
  refine sg_pn hx hb hts iX1_copyFrom_X1 hown hK hw hj hij 5 (by decide) (hts _ mX1_copyFrom_6) dX1_copyFrom_42 ?_
  refine sp_pf hx hb hts iX1_copyFrom_X1 hown hK hw hi 5 (by decide) (hts _ mX1_copyFrom_6) dX1_copyFrom_45 (fun H locs hw => ?_)
  refine lv_aload_n hx hb dX1_copyFrom_48 rfl (lv_at hl 0 rfl) ?_
  refine lv_aload_n hx hb dX1_copyFrom_49 rfl (lv_at hl 1 rfl) ?_
  refine sg_pn hx hb hts iX1_copyFrom_X1 hown hK hw hj hij 6 (by decide) (hts _ mX1_copyFrom_7) dX1_copyFrom_50 ?_
  refine sp_pf hx hb hts iX1_copyFrom_X1 hown hK hw hi 6 (by decide) (hts _ mX1_copyFrom_7) dX1_copyFrom_53 (fun H locs hw => ?_)
  refine lv_aload_n hx hb dX1_copyFrom_56 rfl (lv_at hl 0 rfl) ?_
  refine lv_aload_n hx hb dX1_copyFrom_57 rfl (lv_at hl 1 rfl) ?_
  refine sg_pn hx hb hts iX1_copyFrom_X1 hown hK hw hj hij 7 (by decide) (hts _ mX1_copyFrom_8) dX1_copyFrom_58 ?_
  refine sp_pf hx hb hts iX1_copyFrom_X1 hown hK hw hi 7 (by decide) (hts _ mX1_copyFrom_8) dX1_copyFrom_61 (fun H locs hw => ?_)
  refine lv_aload_n hx hb dX1_copyFrom_64 rfl (lv_at hl 0 rfl) ?_
  refine lv_aload_n hx hb dX1_copyFrom_65 rfl (lv_at hl 1 rfl) ?_
  refine sg_pn hx hb hts iX1_copyFrom_X1 hown hK hw hj hij 8 (by decide) (hts _ mX1_copyFrom_9) dX1_copyFrom_66 ?_
  refine sp_pf hx hb hts iX1_copyFrom_X1 hown hK hw hi 8 (by decide) (hts _ mX1_copyFrom_9) dX1_copyFrom_69 (fun H locs hw => ?_)
  refine lv_aload_n hx hb dX1_copyFrom_72 rfl (lv_at hl 0 rfl) ?_
  refine lv_aload_n hx hb dX1_copyFrom_73 rfl (lv_at hl 1 rfl) ?_
  refine sg_pn hx hb hts iX1_copyFrom_X1 hown hK hw hj hij 9 (by decide) (hts _ mX1_copyFrom_10) dX1_copyFrom_74 ?_
  refine sp_zf hx hb hts iX1_copyFrom_X1 hown hK hw hi 9 (hz 9 (by decide) (by decide)) (by decide) (hts _ mX1_copyFrom_10) dX1_copyFrom_77 (fun H locs hw => ?_)
  refine lv_aload_n hx hb dX1_copyFrom_80 rfl (lv_at hl 0 rfl) ?_
  refine lv_aload_n hx hb dX1_copyFrom_81 rfl (lv_at hl 1 rfl) ?_
  refine sg_pn hx hb hts iX1_copyFrom_X1 hown hK hw hj hij 10 (by decide) (hts _ mX1_copyFrom_11) dX1_copyFrom_82 ?_
  refine sp_zf hx hb hts iX1_copyFrom_X1 hown hK hw hi 10 (hz 10 (by decide) (by decide)) (by decide) (hts _ mX1_copyFrom_11) dX1_copyFrom_85 (fun H locs hw => ?_)
  refine lv_aload_n hx hb dX1_copyFrom_88 rfl (lv_at hl 0 rfl) ?_
  refine lv_aload_n hx hb dX1_copyFrom_89 rfl (lv_at hl 1 rfl) ?_
  refine sg_pn hx hb hts iX1_copyFrom_X1 hown hK hw hj hij 11 (by decide) (hts _ mX1_copyFrom_12) dX1_copyFrom_90 ?_
  refine sp_zf hx hb hts iX1_copyFrom_X1 hown hK hw hi 11 (hz 11 (by decide) (by decide)) (by decide) (hts _ mX1_copyFrom_12) dX1_copyFrom_93 (fun H locs hw => ?_)
  exact se_vw hx hb hr hlocks hw (sW_pond hi (by rfl)) dX1_copyFrom_96
theorem mX1_giveBrine_0 : (Cond.fieldLink RX1 22 "SaltRow$Pond" "salt" "I") ∈ wsX1_giveBrine := by decide +kernel
theorem iX1_giveBrine_X1 : ∀ w ∈ wsX10, w ∈ wsX1_giveBrine := by decide +kernel
theorem mX1_giveBrine_2 : (Cond.fieldLink RX1 15 "SaltRow$Pond" "brine" "I") ∈ wsX1_giveBrine := by decide +kernel
theorem mX1_giveBrine_3 : (Cond.initialized RX3) ∈ wsX1_giveBrine := by decide +kernel
theorem mX1_giveBrine_4 : (Cond.static yX3_portion) ∈ wsX1_giveBrine := by decide +kernel
theorem mX1_giveBrine_5 : (Cond.fieldLink RX1 36 "SaltRow$Pond" "gypsum" "I") ∈ wsX1_giveBrine := by decide +kernel
theorem mX1_giveBrine_6 : (Cond.fieldLink RX1 25 "SaltRow$Pond" "bitter" "I") ∈ wsX1_giveBrine := by decide +kernel
set_option maxHeartbeats 4000000 in
set_option maxRecDepth 100000 in
theorem zX1_giveBrine (l : Launch) (D : va_G) (a : Nat → Nat) (cs : Nat → ClassId) (σ : sS) (i j : Nat) (hi : 5 ≤ i ∧ i < 21) (hj : 5 ≤ j ∧ j < 21) (hij : i ≠ j) (x : Int32) : sMv l yX1_giveBrine wsX1_giveBrine ({ frames := 1, cells := 0, slots := 0, locals := 25 }) D a cs [.ref (a i), .ref (a j), .int x] σ (f_X1_giveBrine σ i j x) := by
  intro sz
  refine Met.ofW (cc := cX1_giveBrine) (maxL := 6) (ret := none) (by decide) rfl ?_
  intro p e s m args below meth c s₁ B hml hv
  obtain ⟨rfl, hsz, hv2⟩ := hv
  have hv3 : sB D a cs σ sz s := ⟨hsz, hv2⟩
  subst hsz
  have hw := sH_start hv3
  obtain ⟨-, -, hK, -, hN⟩ := hv3
  have hx := B.exec
  have hb := B.bytes
  have hr := B.returns
  have hts := atoms_spec (ws := wsX1_giveBrine) B.pre
  have hown : s.vm.findClass RX1 = some m.cls := findClass_of_methodNamed B.named
  have hlocks := B.notSynchronized
  have hA : ∀ q : Nat, s.heap.size ≤ q → sA a s.heap.size q := sA_new
  have hl := lv_entry ([.ref (a i), .ref (a j), .int x]) (n := 6) (Nat.le_of_ble_eq_true rfl)
  rw [lg_entry_eq]
  generalize (lg_sl ([.ref (a i), .ref (a j), .int x]) ++ List.replicate (6 - (lg_sl ([.ref (a i), .ref (a j), .int x])).length) Slot.unset).toArray = ls at hl ⊢
  have hl : lv_has ls 6 [(0, .ref (a i)), (1, .ref (a j)), (2, .int x)] := hl
  refine lv_aload_n hx hb dX1_giveBrine_0 rfl (lv_at hl 0 rfl) ?_
  refine sg_p hx hb hts iX1_giveBrine_X1 hown hK hw hi 2 (by decide) (hts _ mX1_giveBrine_0) dX1_giveBrine_1 ?_
  refine lv_i2l hx hb dX1_giveBrine_4 rfl ?_
  refine lv_iload_n hx hb dX1_giveBrine_5 rfl (lv_at hl 2 rfl) ?_
  refine lv_i2l hx hb dX1_giveBrine_6 rfl ?_
  refine lv_aload_n hx hb dX1_giveBrine_7 rfl (lv_at hl 0 rfl) ?_
  refine sg_p hx hb hts iX1_giveBrine_X1 hown hK hw hi 1 (by decide) (hts _ mX1_giveBrine_2) dX1_giveBrine_8 ?_
  refine lv_i2l hx hb dX1_giveBrine_11 rfl ?_
  refine sc_i (sr_N (As := [.long ((σ i 2).toInt64), .long x.toInt64, .long ((σ i 1).toInt64)]) (rest := []) ⟨hx, hb, hml, hown, hts⟩ (zX3_portion l D a cs _ ((σ i 2).toInt64) x.toInt64 ((σ i 1).toInt64) _) (va_cnB 3 hts gX1_giveBrine_X3_portion_n18 rfl rfl rfl (sN_X1_X3_portion hN) (hts _ mX1_giveBrine_3) (by decide +kernel) ⟨Nat.le_of_ble_eq_true rfl, Nat.le_of_ble_eq_true rfl⟩) (hts _ mX1_giveBrine_4) hK hN hw rfl hl.1 (Nat.le_of_ble_eq_true rfl) dX1_giveBrine_12 ⟨Nat.le_of_ble_eq_true rfl, Nat.le_of_ble_eq_true rfl⟩) hw hA (fun H locs hw => ?_)
  refine lw_topi (fun x1 ex1 => ?_)
  refine lv_istore_n (lv' := [(3, .int x1), (0, .ref (a i)), (1, .ref (a j)), (2, .int x)]) hx hb dX1_giveBrine_15 rfl hl (by decide) rfl (fun ls hl => ?_)
  refine lv_aload_n hx hb dX1_giveBrine_16 rfl (lv_at hl 1 rfl) ?_
  refine sg_p hx hb hts iX1_giveBrine_X1 hown hK hw hi 3 (by decide) (hts _ mX1_giveBrine_5) dX1_giveBrine_17 ?_
  refine lv_i2l hx hb dX1_giveBrine_20 rfl ?_
  refine lv_iload_n hx hb dX1_giveBrine_21 rfl (lv_at hl 3 rfl) ?_
  refine lv_i2l hx hb dX1_giveBrine_22 rfl ?_
  refine lv_aload_n hx hb dX1_giveBrine_23 rfl (lv_at hl 1 rfl) ?_
  refine sg_p hx hb hts iX1_giveBrine_X1 hown hK hw hi 1 (by decide) (hts _ mX1_giveBrine_2) dX1_giveBrine_24 ?_
  refine lv_i2l hx hb dX1_giveBrine_27 rfl ?_
  refine sc_i (sr_N (As := [.long ((σ i 3).toInt64), .long x.toInt64, .long ((σ i 1).toInt64)]) (rest := []) ⟨hx, hb, hml, hown, hts⟩ (zX3_portion l D a cs _ ((σ i 3).toInt64) x.toInt64 ((σ i 1).toInt64) _) (va_cnB 3 hts gX1_giveBrine_X3_portion_n18 rfl rfl rfl (sN_X1_X3_portion hN) (hts _ mX1_giveBrine_3) (by decide +kernel) ⟨Nat.le_of_ble_eq_true rfl, Nat.le_of_ble_eq_true rfl⟩) (hts _ mX1_giveBrine_4) hK hN hw rfl hl.1 (Nat.le_of_ble_eq_true rfl) dX1_giveBrine_28 ⟨Nat.le_of_ble_eq_true rfl, Nat.le_of_ble_eq_true rfl⟩) hw hA (fun H locs hw => ?_)
  refine lw_topi (fun x2 ex2 => ?_)
  refine lv_istore (lv' := [(4, .int x2), (3, .int x1), (0, .ref (a i)), (1, .ref (a j)), (2, .int x)]) hx hb dX1_giveBrine_31 hl (by decide) rfl (fun ls hl => ?_)
  refine lv_aload_n hx hb dX1_giveBrine_33 rfl (lv_at hl 2 rfl) ?_
  refine sg_p hx hb hts iX1_giveBrine_X1 hown hK hw hi 4 (by decide) (hts _ mX1_giveBrine_6) dX1_giveBrine_34 ?_
  refine lv_i2l hx hb dX1_giveBrine_37 rfl ?_
  refine lv_iload_n hx hb dX1_giveBrine_38 rfl (lv_at hl 4 rfl) ?_
  refine lv_i2l hx hb dX1_giveBrine_39 rfl ?_
  refine lv_aload_n hx hb dX1_giveBrine_40 rfl (lv_at hl 2 rfl) ?_
  refine sg_p hx hb hts iX1_giveBrine_X1 hown hK hw hi 1 (by decide) (hts _ mX1_giveBrine_2) dX1_giveBrine_41 ?_
  refine lv_i2l hx hb dX1_giveBrine_44 rfl ?_
  refine sc_i (sr_N (As := [.long ((σ i 4).toInt64), .long x.toInt64, .long ((σ i 1).toInt64)]) (rest := []) ⟨hx, hb, hml, hown, hts⟩ (zX3_portion l D a cs _ ((σ i 4).toInt64) x.toInt64 ((σ i 1).toInt64) _) (va_cnB 3 hts gX1_giveBrine_X3_portion_n18 rfl rfl rfl (sN_X1_X3_portion hN) (hts _ mX1_giveBrine_3) (by decide +kernel) ⟨Nat.le_of_ble_eq_true rfl, Nat.le_of_ble_eq_true rfl⟩) (hts _ mX1_giveBrine_4) hK hN hw rfl hl.1 (Nat.le_of_ble_eq_true rfl) dX1_giveBrine_45 ⟨Nat.le_of_ble_eq_true rfl, Nat.le_of_ble_eq_true rfl⟩) hw hA (fun H locs hw => ?_)
  refine lw_topi (fun x3 ex3 => ?_)
  refine lv_istore (lv' := [(5, .int x3), (4, .int x2), (3, .int x1), (0, .ref (a i)), (1, .ref (a j)), (2, .int x)]) hx hb dX1_giveBrine_48 hl (by decide) rfl (fun ls hl => ?_)
  refine lv_aload_n hx hb dX1_giveBrine_50 rfl (lv_at hl 3 rfl) ?_
  refine lv_iload_n hx hb dX1_giveBrine_51 rfl (lv_at hl 5 rfl) ?_
  refine lv_ineg hx hb dX1_giveBrine_52 ?_
  refine lv_iload_n hx hb dX1_giveBrine_53 rfl (lv_at hl 2 rfl) ?_
  refine lv_ineg hx hb dX1_giveBrine_54 ?_
  refine lv_iload hx hb dX1_giveBrine_55 (lv_at hl 1 rfl) ?_
  refine lv_ineg hx hb dX1_giveBrine_57 ?_
  refine lv_iload hx hb dX1_giveBrine_58 (lv_at hl 0 rfl) ?_
  refine lv_ineg hx hb dX1_giveBrine_60 ?_
  have hw := sH_foc (i := i) hw
  refine sc_v (sr_V (i := i) (As := [.int (-x), .int (-x1), .int (-x2), .int (-x3)]) (rest := []) ⟨hx, hb, hml, hown, hts⟩ (zX1_takeIn l D a cs _ i hi _ (-x) (-x1) (-x2) (-x3) _) (cwV 4 hts gX1_giveBrine_X1_takeIn rfl rfl rfl (by decide +kernel) ⟨Nat.le_of_ble_eq_true rfl, Nat.le_of_ble_eq_true rfl⟩) hK hN hw (by omega) (sE_p hi) kcX1 rfl hl.1 (Nat.le_of_ble_eq_true rfl) dX1_giveBrine_61 ⟨Nat.le_of_ble_eq_true rfl, Nat.le_of_ble_eq_true rfl⟩) hw hA (fun H locs hw => ?_)
  obtain ⟨τ4, eτ4⟩ : ∃ zz : sS, va_up σ i (f_X1_takeIn (σ i) (-x) (-x1) (-x2) (-x3)) = zz := ⟨_, rfl⟩
  rw [eτ4] at hw
  refine lv_aload_n hx hb dX1_giveBrine_64 rfl (lv_at hl 4 rfl) ?_
  refine lv_iload_n hx hb dX1_giveBrine_65 rfl (lv_at hl 5 rfl) ?_
  refine lv_iload_n hx hb dX1_giveBrine_66 rfl (lv_at hl 2 rfl) ?_
  refine lv_iload hx hb dX1_giveBrine_67 (lv_at hl 1 rfl) ?_
  refine lv_iload hx hb dX1_giveBrine_69 (lv_at hl 0 rfl) ?_
  have hw := sH_foc (i := j) hw
  refine sc_v (sr_V (i := j) (As := [.int x, .int x1, .int x2, .int x3]) (rest := []) ⟨hx, hb, hml, hown, hts⟩ (zX1_takeIn l D a cs _ j hj _ x x1 x2 x3 _) (cwV 4 hts gX1_giveBrine_X1_takeIn rfl rfl rfl (by decide +kernel) ⟨Nat.le_of_ble_eq_true rfl, Nat.le_of_ble_eq_true rfl⟩) hK hN hw (by omega) (sE_p hj) kcX1 rfl hl.1 (Nat.le_of_ble_eq_true rfl) dX1_giveBrine_71 ⟨Nat.le_of_ble_eq_true rfl, Nat.le_of_ble_eq_true rfl⟩) hw hA (fun H locs hw => ?_)
  obtain ⟨τ5, eτ5⟩ : ∃ zz : sS, va_up τ4 j (f_X1_takeIn (τ4 j) x x1 x2 x3) = zz := ⟨_, rfl⟩
  rw [eτ5] at hw
  exact se_v hx hb hr hlocks hw (by subst eτ5 eτ4 ex3 ex2 ex1; exact rfl) dX1_giveBrine_74
theorem mX2_letSeaIn_0 : (Cond.fieldLink RX2 11 "SaltRow$Row" "ponds" "[LSaltRow$Pond;") ∈ wsX2_letSeaIn := by decide +kernel
theorem iX2_letSeaIn_X2 : ∀ w ∈ wsX20, w ∈ wsX2_letSeaIn := by decide +kernel
theorem mX2_letSeaIn_2 : (Cond.fieldLink RX2 18 "SaltRow$Row" "day" "I") ∈ wsX2_letSeaIn := by decide +kernel
theorem mX2_letSeaIn_3 : (Cond.initialized RX3) ∈ wsX2_letSeaIn := by decide +kernel
theorem mX2_letSeaIn_4 : (Cond.static yX3_tideAt) ∈ wsX2_letSeaIn := by decide +kernel
theorem mX2_letSeaIn_5 : (Cond.fieldLink RX2 66 "SaltRow$Pond" "isOpen" "Z") ∈ wsX2_letSeaIn := by decide +kernel
theorem iX2_letSeaIn_X1 : ∀ w ∈ wsX10, w ∈ wsX2_letSeaIn := by decide +kernel
theorem mX2_letSeaIn_7 : (Cond.fieldLink RX2 69 "SaltRow$Pond" "area" "I") ∈ wsX2_letSeaIn := by decide +kernel
theorem mX2_letSeaIn_8 : (Cond.fieldLink RX2 28 "SaltRow$Row" "seaSalt" "I") ∈ wsX2_letSeaIn := by decide +kernel
set_option maxHeartbeats 4000000 in
set_option maxRecDepth 100000 in
theorem zX2_letSeaIn (l : Launch) (D : va_G) (a : Nat → Nat) (cs : Nat → ClassId) (σ : sS) (r : Nat) (hr2 : r < 2)  : sMv l yX2_letSeaIn wsX2_letSeaIn ({ frames := 2, cells := 0, slots := 0, locals := 45 }) D a cs [.ref (a (1 + r))] σ (f_X2_letSeaIn σ r) := by
  intro sz
  refine Met.ofW (cc := cX2_letSeaIn) (maxL := 4) (ret := none) (by decide) rfl ?_
  intro p e s m args below meth c s₁ B hml hv
  obtain ⟨rfl, hsz, hv2⟩ := hv
  have hv3 : sB D a cs σ sz s := ⟨hsz, hv2⟩
  subst hsz
  have hw := sH_start hv3
  obtain ⟨-, -, hK, -, hN⟩ := hv3
  have hx := B.exec
  have hb := B.bytes
  have hr := B.returns
  have hts := atoms_spec (ws := wsX2_letSeaIn) B.pre
  have hown : s.vm.findClass RX2 = some m.cls := findClass_of_methodNamed B.named
  have hlocks := B.notSynchronized
  have hA : ∀ q : Nat, s.heap.size ≤ q → sA a s.heap.size q := sA_new
  have hl := lv_entry ([.ref (a (1 + r))]) (n := 4) (Nat.le_of_ble_eq_true rfl)
  rw [lg_entry_eq]
  generalize (lg_sl ([.ref (a (1 + r))]) ++ List.replicate (4 - (lg_sl ([.ref (a (1 + r))])).length) Slot.unset).toArray = ls at hl ⊢
  have hl : lv_has ls 4 [(0, .ref (a (1 + r)))] := hl
  refine lv_aload_n hx hb dX2_letSeaIn_0 rfl (lv_at hl 0 rfl) ?_
  refine sg_rq (r := r) hx hb hts iX2_letSeaIn_X2 hown hK hw hr2 (hts _ mX2_letSeaIn_0) dX2_letSeaIn_1 ?_
  refine lv_iconst (v := 0) hx hb dX2_letSeaIn_4 (by decide) ?_
  refine sg_q (r := r) (k := 0) hx hb hK hw hr2 (by decide) rfl dX2_letSeaIn_5 ?_
  refine lv_astore_n (lv' := [(1, .ref (a (5 + 8 * r + 0))), (0, .ref (a (1 + r)))]) hx hb dX2_letSeaIn_6 rfl hl (by decide) rfl (fun ls hl => ?_)
  refine lv_bipush (v := 10) hx hb dX2_letSeaIn_7 (by decide) ?_
  refine lv_aload_n hx hb dX2_letSeaIn_9 rfl (lv_at hl 1 rfl) ?_
  refine sg_r (r := r) hx hb hts iX2_letSeaIn_X2 hown hK hw hr2 1 (by decide) (hts _ mX2_letSeaIn_2) dX2_letSeaIn_10 ?_
  refine sc_i (sr_N (As := [.int (σ (1 + r) 1)]) (rest := [.int 10]) ⟨hx, hb, hml, hown, hts⟩ (zX3_tideAt l D a cs _ (σ (1 + r) 1) _) (va_cnB 1 hts gX2_letSeaIn_X3_tideAt_n58 rfl rfl rfl (sN_X2_X3_tideAt hN) (hts _ mX2_letSeaIn_3) (by decide +kernel) ⟨Nat.le_of_ble_eq_true rfl, Nat.le_of_ble_eq_true rfl⟩) (hts _ mX2_letSeaIn_4) hK hN hw rfl hl.1 (Nat.le_of_ble_eq_true rfl) dX2_letSeaIn_13 ⟨Nat.le_of_ble_eq_true rfl, Nat.le_of_ble_eq_true rfl⟩) hw hA (fun H locs hw => ?_)
  refine lv_imul hx hb dX2_letSeaIn_16 ?_
  refine lv_aload_n hx hb dX2_letSeaIn_17 rfl (lv_at hl 0 rfl) ?_
  have hw := sH_foc (i := 5 + 8 * r + 0) hw
  refine sc_i (sr_V (i := 5 + 8 * r + 0) (As := []) (rest := [.int (10 * (f_X3_tideAt (σ (1 + r) 1)))]) ⟨hx, hb, hml, hown, hts⟩ (zX1_level l D a cs _ (5 + 8 * r + 0) (by omega) _ _) (cwV 0 hts gX2_letSeaIn_X1_level rfl rfl rfl (by decide +kernel) ⟨Nat.le_of_ble_eq_true rfl, Nat.le_of_ble_eq_true rfl⟩) hK hN hw (by omega) (sE_p (by omega)) kcX1 rfl hl.1 (Nat.le_of_ble_eq_true rfl) dX2_letSeaIn_18 ⟨Nat.le_of_ble_eq_true rfl, Nat.le_of_ble_eq_true rfl⟩) hw hA (fun H locs hw => ?_)
  have hw := sH_unf hw
  refine lv_isub hx hb dX2_letSeaIn_21 ?_
  refine lw_topi (fun x1 ex1 => ?_)
  refine lv_istore_n (lv' := [(2, .int x1), (1, .ref (a (5 + 8 * r + 0))), (0, .ref (a (1 + r)))]) hx hb dX2_letSeaIn_22 rfl hl (by decide) rfl (fun ls hl => ?_)
  refine lv_aload_n hx hb dX2_letSeaIn_23 rfl (lv_at hl 1 rfl) ?_
  refine sg_p hx hb hts iX2_letSeaIn_X1 hown hK hw (by omega) 9 (by decide) (hts _ mX2_letSeaIn_5) dX2_letSeaIn_24 ?_
  refine lv_if_eq (tgt := 72) hx hb dX2_letSeaIn_27 (by decide) (fun c2 => ?_) (fun c2 => ?_)
  · exact se_v hx hb hr hlocks hw (by subst ex1; unfold f_X2_letSeaIn; rw [if_pos c2] <;> rfl) dX2_letSeaIn_72
  · refine lv_iload_n hx hb dX2_letSeaIn_30 rfl (lv_at hl 0 rfl) ?_
    refine lv_if_le (tgt := 72) hx hb dX2_letSeaIn_31 (by decide) (fun c3 => ?_) (fun c3 => ?_)
    · exact se_v hx hb hr hlocks hw (by subst ex1; unfold f_X2_letSeaIn; rw [if_neg c2, if_pos c3] <;> rfl) dX2_letSeaIn_72
    · refine lv_iload_n hx hb dX2_letSeaIn_34 rfl (lv_at hl 0 rfl) ?_
      refine lv_aload_n hx hb dX2_letSeaIn_35 rfl (lv_at hl 1 rfl) ?_
      refine sg_p hx hb hts iX2_letSeaIn_X1 hown hK hw (by omega) 0 (by decide) (hts _ mX2_letSeaIn_7) dX2_letSeaIn_36 ?_
      refine lv_imul hx hb dX2_letSeaIn_39 ?_
      refine lv_iconst (v := 4) hx hb dX2_letSeaIn_40 (by decide) ?_
      refine lv_idiv hx hb dX2_letSeaIn_41 (by decide) ?_
      refine lw_topi (fun x4 ex4 => ?_)
      refine lv_istore_n (lv' := [(3, .int x4), (2, .int x1), (1, .ref (a (5 + 8 * r + 0))), (0, .ref (a (1 + r)))]) hx hb dX2_letSeaIn_42 rfl hl (by decide) rfl (fun ls hl => ?_)
      refine lv_aload_n hx hb dX2_letSeaIn_43 rfl (lv_at hl 2 rfl) ?_
      refine lv_iload_n hx hb dX2_letSeaIn_44 rfl (lv_at hl 0 rfl) ?_
      refine lv_bipush (v := 30) hx hb dX2_letSeaIn_45 (by decide) ?_
      refine lv_iload_n hx hb dX2_letSeaIn_47 rfl (lv_at hl 0 rfl) ?_
      refine lv_imul hx hb dX2_letSeaIn_48 ?_
      refine lv_iconst (v := 2) hx hb dX2_letSeaIn_49 (by decide) ?_
      refine lv_iload_n hx hb dX2_letSeaIn_50 rfl (lv_at hl 0 rfl) ?_
      refine lv_imul hx hb dX2_letSeaIn_51 ?_
      refine lv_bipush (v := 6) hx hb dX2_letSeaIn_52 (by decide) ?_
      refine lv_iload_n hx hb dX2_letSeaIn_54 rfl (lv_at hl 0 rfl) ?_
      refine lv_imul hx hb dX2_letSeaIn_55 ?_
      have hw := sH_foc (i := 5 + 8 * r + 0) hw
      refine sc_v (sr_V (i := 5 + 8 * r + 0) (As := [.int x4, .int (30 * x4), .int (2 * x4), .int (6 * x4)]) (rest := []) ⟨hx, hb, hml, hown, hts⟩ (zX1_takeIn l D a cs _ (5 + 8 * r + 0) (by omega) _ x4 (30 * x4) (2 * x4) (6 * x4) _) (cwV 4 hts gX2_letSeaIn_X1_takeIn rfl rfl rfl (by decide +kernel) ⟨Nat.le_of_ble_eq_true rfl, Nat.le_of_ble_eq_true rfl⟩) hK hN hw (by omega) (sE_p (by omega)) kcX1 rfl hl.1 (Nat.le_of_ble_eq_true rfl) dX2_letSeaIn_56 ⟨Nat.le_of_ble_eq_true rfl, Nat.le_of_ble_eq_true rfl⟩) hw hA (fun H locs hw => ?_)
      obtain ⟨τ5, eτ5⟩ : ∃ zz : sS, va_up σ (5 + 8 * r + 0) (f_X1_takeIn (σ (5 + 8 * r + 0)) x4 (30 * x4) (2 * x4) (6 * x4)) = zz := ⟨_, rfl⟩
      rw [eτ5] at hw
      refine lv_aload_n hx hb dX2_letSeaIn_59 rfl (lv_at hl 3 rfl) ?_
      refine lv_dup hx hb dX2_letSeaIn_60 rfl ?_
      refine sg_r (r := r) hx hb hts iX2_letSeaIn_X2 hown hK hw hr2 4 (by decide) (hts _ mX2_letSeaIn_8) dX2_letSeaIn_61 ?_
      refine lv_bipush (v := 30) hx hb dX2_letSeaIn_64 (by decide) ?_
      refine lv_iload_n hx hb dX2_letSeaIn_66 rfl (lv_at hl 0 rfl) ?_
      refine lv_imul hx hb dX2_letSeaIn_67 ?_
      refine lv_iadd hx hb dX2_letSeaIn_68 ?_
      refine lw_topi (fun x6 ex6 => ?_)
      refine sp_r (r := r) hx hb hts iX2_letSeaIn_X2 hown hK hw hr2 4 (by decide) (hts _ mX2_letSeaIn_8) dX2_letSeaIn_69 (fun H locs hw => ?_)
      obtain ⟨τ7, eτ7⟩ : ∃ zz : sS, va_up τ5 (1 + r) (upd (τ5 (1 + r)) 4 x6) = zz := ⟨_, rfl⟩
      rw [eτ7] at hw
      exact se_v hx hb hr hlocks hw (by subst eτ7 ex6 eτ5 ex4 ex1; unfold f_X2_letSeaIn; rw [if_neg c2, if_neg c3] <;> rfl) dX2_letSeaIn_72
