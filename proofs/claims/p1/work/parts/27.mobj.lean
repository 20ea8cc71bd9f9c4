set_option maxHeartbeats 4000000 in
set_option maxRecDepth 100000 in
theorem zX6_isIn (l : Launch) (D : va_G) (a : Nat → Nat) (cs : Nat → ClassId) (N : Nat) (hN : 10 ≤ N) (σ : sS) (x : Int32) (y : Int32) (z : Int32) : mMi l yX6_isIn wsX6_isIn ({ frames := 0, cells := 0, slots := 0, locals := 0 }) 0 0 D a cs N [.int x, .int y, .int z] σ (g_X6_isIn x y z) σ := by
  intro sz
  refine Met.ofW (cc := cX6_isIn) (maxL := 3) (ret := (some .boolean)) (by decide) rfl ?_
  intro p e s m args below meth c s₁ B hml hv
  obtain ⟨rfl, hsz, hv2⟩ := hv
  have hv3 : mB D a cs N σ sz s := ⟨hsz, hv2⟩
  subst hsz
  have hw := mH_start hv3
  obtain ⟨-, -, hK, -, hN2⟩ := hv3
  have hx := B.exec
  have hb := B.bytes
  have hr := B.returns
  have hts := atoms_spec (ws := wsX6_isIn) B.pre
  have hown : s.vm.findClass RX6 = some m.cls := findClass_of_methodNamed B.named
  have hlocks := B.notSynchronized
  have hA : ∀ q : Nat, s.heap.size ≤ q → mA a N s.heap.size q := mA_new
  have hl := lv_entry ([.int x, .int y, .int z]) (n := 3) (Nat.le_of_ble_eq_true rfl)
  rw [lg_entry_eq]
  generalize (lg_sl ([.int x, .int y, .int z]) ++ List.replicate (3 - (lg_sl ([.int x, .int y, .int z])).length) Slot.unset).toArray = ls at hl ⊢
  have hl : lv_has ls 3 [(0, .int x), (1, .int y), (2, .int z)] := hl
  refine lv_iload_n hx hb dX6_isIn_0 rfl (lv_at hl 0 rfl) ?_
  refine lv_iload_n hx hb dX6_isIn_1 rfl (lv_at hl 1 rfl) ?_
  refine lv_icmp_lt (tgt := 14) hx hb dX6_isIn_2 (by decide) (fun c1 => ?_) (fun c1 => ?_)
  · refine lv_iconst (v := 0) hx hb dX6_isIn_14 (by decide) ?_
    exact me_z hx hb hr hlocks hw (Or.inl rfl) (by unfold g_X6_isIn; rw [if_pos c1] <;> rfl) (by rfl) dX6_isIn_15
  · refine lv_iload_n hx hb dX6_isIn_5 rfl (lv_at hl 0 rfl) ?_
    refine lv_iload_n hx hb dX6_isIn_6 rfl (lv_at hl 2 rfl) ?_
    refine lv_icmp_gt (tgt := 14) hx hb dX6_isIn_7 (by decide) (fun c2 => ?_) (fun c2 => ?_)
    · refine lv_iconst (v := 0) hx hb dX6_isIn_14 (by decide) ?_
      exact me_z hx hb hr hlocks hw (Or.inl rfl) (by unfold g_X6_isIn; rw [if_neg c1, if_pos c2] <;> rfl) (by rfl) dX6_isIn_15
    · refine lv_iconst (v := 1) hx hb dX6_isIn_10 (by decide) ?_
      refine lv_goto (tgt := 15) hx hb dX6_isIn_11 (by decide) ?_
      exact me_z hx hb hr hlocks hw (Or.inr rfl) (by unfold g_X6_isIn; rw [if_neg c1, if_neg c2] <;> rfl) (by rfl) dX6_isIn_15
set_option maxHeartbeats 4000000 in
set_option maxRecDepth 100000 in
theorem zX6_one (l : Launch) (D : va_G) (a : Nat → Nat) (cs : Nat → ClassId) (N : Nat) (hN : 10 ≤ N) (σ : sS) (x : Int32) : mMi l yX6_one wsX6_one ({ frames := 0, cells := 0, slots := 0, locals := 0 }) 0 0 D a cs N [.int x] σ (g_X6_one x) σ := by
  intro sz
  refine Met.ofW (cc := cX6_one) (maxL := 1) (ret := (some .int)) (by decide) rfl ?_
  intro p e s m args below meth c s₁ B hml hv
  obtain ⟨rfl, hsz, hv2⟩ := hv
  have hv3 : mB D a cs N σ sz s := ⟨hsz, hv2⟩
  subst hsz
  have hw := mH_start hv3
  obtain ⟨-, -, hK, -, hN2⟩ := hv3
  have hx := B.exec
  have hb := B.bytes
  have hr := B.returns
  have hts := atoms_spec (ws := wsX6_one) B.pre
  have hown : s.vm.findClass RX6 = some m.cls := findClass_of_methodNamed B.named
  have hlocks := B.notSynchronized
  have hA : ∀ q : Nat, s.heap.size ≤ q → mA a N s.heap.size q := mA_new
  have hl := lv_entry ([.int x]) (n := 1) (Nat.le_of_ble_eq_true rfl)
  rw [lg_entry_eq]
  generalize (lg_sl ([.int x]) ++ List.replicate (1 - (lg_sl ([.int x])).length) Slot.unset).toArray = ls at hl ⊢
  have hl : lv_has ls 1 [(0, .int x)] := hl
  refine lv_iload_n hx hb dX6_one_0 rfl (lv_at hl 0 rfl) ?_
  refine lv_if_eq (tgt := 8) hx hb dX6_one_1 (by decide) (fun c1 => ?_) (fun c1 => ?_)
  · refine lv_iconst (v := 0) hx hb dX6_one_8 (by decide) ?_
    exact me_i hx hb hr hlocks hw (by unfold g_X6_one; rw [if_pos c1] <;> rfl) (by rfl) dX6_one_9
  · refine lv_iconst (v := 1) hx hb dX6_one_4 (by decide) ?_
    refine lv_goto (tgt := 9) hx hb dX6_one_5 (by decide) ?_
    exact me_i hx hb hr hlocks hw (by unfold g_X6_one; rw [if_neg c1] <;> rfl) (by rfl) dX6_one_9
set_option maxHeartbeats 4000000 in
set_option maxRecDepth 100000 in
theorem zX6_isNoPond (l : Launch) (D : va_G) (a : Nat → Nat) (cs : Nat → ClassId) (N : Nat) (hN : 10 ≤ N) (σ : sS) (x : Int32) : mMi l yX6_isNoPond wsX6_isNoPond ({ frames := 1, cells := 0, slots := 0, locals := 22 }) 0 0 D a cs N [.int x] σ (g_X6_isNoPond x) σ := by
  intro sz
  refine Met.ofW (cc := cX6_isNoPond) (maxL := 1) (ret := (some .boolean)) (by decide) rfl ?_
  intro p e s m args below meth c s₁ B hml hv
  obtain ⟨rfl, hsz, hv2⟩ := hv
  have hv3 : mB D a cs N σ sz s := ⟨hsz, hv2⟩
  subst hsz
  have hw := mH_start hv3
  obtain ⟨-, -, hK, -, hN2⟩ := hv3
  have hx := B.exec
  have hb := B.bytes
  have hr := B.returns
  have hts := atoms_spec (ws := wsX6_isNoPond) B.pre
  have hown : s.vm.findClass RX6 = some m.cls := findClass_of_methodNamed B.named
  have hlocks := B.notSynchronized
  have hA : ∀ q : Nat, s.heap.size ≤ q → mA a N s.heap.size q := mA_new
  have hl := lv_entry ([.int x]) (n := 1) (Nat.le_of_ble_eq_true rfl)
  rw [lg_entry_eq]
  generalize (lg_sl ([.int x]) ++ List.replicate (1 - (lg_sl ([.int x])).length) Slot.unset).toArray = ls at hl ⊢
  have hl : lv_has ls 1 [(0, .int x)] := hl
  refine lv_iload_n hx hb dX6_isNoPond_0 rfl (lv_at hl 0 rfl) ?_
  refine lv_iconst (v := 0) hx hb dX6_isNoPond_1 (by decide) ?_
  refine lv_bipush (v := 7) hx hb dX6_isNoPond_2 (by decide) ?_
  refine mc_i (mr_S (As := [.int x, .int 0, .int 7]) (rest := []) ⟨hx, hb, hml, hown, hts⟩ (zX6_isIn l D a cs N (by omega) _ x 0 7 _) (va_cwS 3 hts gX6_isNoPond_X6_isIn rfl rfl rfl (by decide +kernel) ⟨Nat.le_of_ble_eq_true rfl, Nat.le_of_ble_eq_true rfl⟩) hK hN2 hw rfl hl.1 (Nat.le_of_ble_eq_true rfl) dX6_isNoPond_4 ⟨Nat.le_of_ble_eq_true rfl, Nat.le_of_ble_eq_true rfl⟩) hw hA (fun H locs hw => ?_)
  refine lv_if_ne (tgt := 14) hx hb dX6_isNoPond_7 (by decide) (fun c1 => ?_) (fun c1 => ?_)
  · refine lv_iconst (v := 0) hx hb dX6_isNoPond_14 (by decide) ?_
    exact me_z hx hb hr hlocks hw (Or.inl rfl) (by unfold g_X6_isNoPond; rw [if_neg c1] <;> rfl) (by rfl) dX6_isNoPond_15
  · refine lv_iconst (v := 1) hx hb dX6_isNoPond_10 (by decide) ?_
    refine lv_goto (tgt := 15) hx hb dX6_isNoPond_11 (by decide) ?_
    exact me_z hx hb hr hlocks hw (Or.inr rfl) (by unfold g_X6_isNoPond; rw [if_pos c1] <;> rfl) (by rfl) dX6_isNoPond_15
set_option maxHeartbeats 4000000 in
set_option maxRecDepth 100000 in
theorem zX6_isNoPan (l : Launch) (D : va_G) (a : Nat → Nat) (cs : Nat → ClassId) (N : Nat) (hN : 10 ≤ N) (σ : sS) (x : Int32) : mMi l yX6_isNoPan wsX6_isNoPan ({ frames := 1, cells := 0, slots := 0, locals := 22 }) 0 0 D a cs N [.int x] σ (g_X6_isNoPan x) σ := by
  intro sz
  refine Met.ofW (cc := cX6_isNoPan) (maxL := 1) (ret := (some .boolean)) (by decide) rfl ?_
  intro p e s m args below meth c s₁ B hml hv
  obtain ⟨rfl, hsz, hv2⟩ := hv
  have hv3 : mB D a cs N σ sz s := ⟨hsz, hv2⟩
  subst hsz
  have hw := mH_start hv3
  obtain ⟨-, -, hK, -, hN2⟩ := hv3
  have hx := B.exec
  have hb := B.bytes
  have hr := B.returns
  have hts := atoms_spec (ws := wsX6_isNoPan) B.pre
  have hown : s.vm.findClass RX6 = some m.cls := findClass_of_methodNamed B.named
  have hlocks := B.notSynchronized
  have hA : ∀ q : Nat, s.heap.size ≤ q → mA a N s.heap.size q := mA_new
  have hl := lv_entry ([.int x]) (n := 1) (Nat.le_of_ble_eq_true rfl)
  rw [lg_entry_eq]
  generalize (lg_sl ([.int x]) ++ List.replicate (1 - (lg_sl ([.int x])).length) Slot.unset).toArray = ls at hl ⊢
  have hl : lv_has ls 1 [(0, .int x)] := hl
  refine lv_iload_n hx hb dX6_isNoPan_0 rfl (lv_at hl 0 rfl) ?_
  refine lv_iconst (v := 5) hx hb dX6_isNoPan_1 (by decide) ?_
  refine lv_bipush (v := 7) hx hb dX6_isNoPan_2 (by decide) ?_
  refine mc_i (mr_S (As := [.int x, .int 5, .int 7]) (rest := []) ⟨hx, hb, hml, hown, hts⟩ (zX6_isIn l D a cs N (by omega) _ x 5 7 _) (va_cwS 3 hts gX6_isNoPan_X6_isIn rfl rfl rfl (by decide +kernel) ⟨Nat.le_of_ble_eq_true rfl, Nat.le_of_ble_eq_true rfl⟩) hK hN2 hw rfl hl.1 (Nat.le_of_ble_eq_true rfl) dX6_isNoPan_4 ⟨Nat.le_of_ble_eq_true rfl, Nat.le_of_ble_eq_true rfl⟩) hw hA (fun H locs hw => ?_)
  refine lv_if_ne (tgt := 14) hx hb dX6_isNoPan_7 (by decide) (fun c1 => ?_) (fun c1 => ?_)
  · refine lv_iconst (v := 0) hx hb dX6_isNoPan_14 (by decide) ?_
    exact me_z hx hb hr hlocks hw (Or.inl rfl) (by unfold g_X6_isNoPan; rw [if_neg c1] <;> rfl) (by rfl) dX6_isNoPan_15
  · refine lv_iconst (v := 1) hx hb dX6_isNoPan_10 (by decide) ?_
    refine lv_goto (tgt := 15) hx hb dX6_isNoPan_11 (by decide) ?_
    exact me_z hx hb hr hlocks hw (Or.inr rfl) (by unfold g_X6_isNoPan; rw [if_pos c1] <;> rfl) (by rfl) dX6_isNoPan_15
theorem mX6_thrown_0 : (Cond.fieldLink RX6 31 "SaltRowModel" "thrown" "I") ∈ wsX6_thrown := by decide +kernel
theorem iX6_thrown_X6 : ∀ w ∈ wsX60, w ∈ wsX6_thrown := by decide +kernel
set_option maxHeartbeats 4000000 in
set_option maxRecDepth 100000 in
theorem zX6_thrown (l : Launch) (D : va_G) (a : Nat → Nat) (cs : Nat → ClassId) (N : Nat) (hN : 12 ≤ N) (σ : sS)  : mMi l yX6_thrown wsX6_thrown ({ frames := 0, cells := 0, slots := 0, locals := 0 }) 0 0 D a cs N [.ref (a 10)] σ (σ 10 0) σ := by
  intro sz
  refine Met.ofW (cc := cX6_thrown) (maxL := 1) (ret := (some .int)) (by decide) rfl ?_
  intro p e s m args below meth c s₁ B hml hv
  obtain ⟨rfl, hsz, hv2⟩ := hv
  have hv3 : mB D a cs N σ sz s := ⟨hsz, hv2⟩
  subst hsz
  have hw := mH_start hv3
  obtain ⟨-, -, hK, -, hN2⟩ := hv3
  have hx := B.exec
  have hb := B.bytes
  have hr := B.returns
  have hts := atoms_spec (ws := wsX6_thrown) B.pre
  have hown : s.vm.findClass RX6 = some m.cls := findClass_of_methodNamed B.named
  have hlocks := B.notSynchronized
  have hA : ∀ q : Nat, s.heap.size ≤ q → mA a N s.heap.size q := mA_new
  have hl := lv_entry ([.ref (a 10)]) (n := 1) (Nat.le_of_ble_eq_true rfl)
  rw [lg_entry_eq]
  generalize (lg_sl ([.ref (a 10)]) ++ List.replicate (1 - (lg_sl ([.ref (a 10)])).length) Slot.unset).toArray = ls at hl ⊢
  have hl : lv_has ls 1 [(0, .ref (a 10))] := hl
  refine lv_aload_n hx hb dX6_thrown_0 rfl (lv_at hl 0 rfl) ?_
  refine mg_o hx hb hts iX6_thrown_X6 hown hK hw (by omega) 0 (by decide) (hts _ mX6_thrown_0) dX6_thrown_1 ?_
  exact me_i hx hb hr hlocks hw (by exact rfl) (by rfl) dX6_thrown_4
theorem mX6_refuse_0_0 : (Cond.fieldLink RX6 31 "SaltRowModel" "thrown" "I") ∈ wsX6_refuse := by decide +kernel
theorem iX6_refuse_X6_0 : ∀ w ∈ wsX60, w ∈ wsX6_refuse := by decide +kernel
set_option maxHeartbeats 4000000 in
set_option maxRecDepth 100000 in
theorem zX6_refuse0 (l : Launch) (D : va_G) (a : Nat → Nat) (cs : Nat → ClassId) (N : Nat) (hN : 12 ≤ N) (σ : sS) (x w : Int32) (hx0 : x = 0) (h0 : σ 10 0 = 0) : mMi l yX6_refuse wsX6_refuse ({ frames := 0, cells := 0, slots := 0, locals := 0 }) 0 0 D a cs N [.ref (a 10), .int x, .int w] σ 0 σ := by
  intro sz
  refine Met.ofW (cc := cX6_refuse) (maxL := 3) (ret := (some .boolean)) (by decide) rfl ?_
  intro p e s m args below meth c s₁ B hml hv
  obtain ⟨rfl, hsz, hv2⟩ := hv
  have hv3 : mB D a cs N σ sz s := ⟨hsz, hv2⟩
  subst hsz
  have hw := mH_start hv3
  obtain ⟨-, -, hK, -, hN2⟩ := hv3
  have hx := B.exec
  have hb := B.bytes
  have hr := B.returns
  have hts := atoms_spec (ws := wsX6_refuse) B.pre
  have hown : s.vm.findClass RX6 = some m.cls := findClass_of_methodNamed B.named
  have hlocks := B.notSynchronized
  have hA : ∀ q : Nat, s.heap.size ≤ q → mA a N s.heap.size q := mA_new
  have hl := lv_entry ([.ref (a 10), .int x, .int w]) (n := 3) (Nat.le_of_ble_eq_true rfl)
  rw [lg_entry_eq]
  generalize (lg_sl ([.ref (a 10), .int x, .int w]) ++ List.replicate (3 - (lg_sl ([.ref (a 10), .int x, .int w])).length) Slot.unset).toArray = ls at hl ⊢
  have hl : lv_has ls 3 [(0, .ref (a 10)), (1, .int x), (2, .int w)] := hl
  refine lv_iload_n hx hb dX6_refuse_0 rfl (lv_at hl 1 rfl) ?_
  refine lv_if_eq (tgt := 16) hx hb dX6_refuse_1 (by decide) (fun c1 => ?_) (fun c1 => absurd hx0 c1)
  refine lv_aload_n hx hb dX6_refuse_16 rfl (lv_at hl 0 rfl) ?_
  refine mg_o hx hb hts iX6_refuse_X6_0 hown hK hw (by omega) 0 (by decide) (hts _ mX6_refuse_0_0) dX6_refuse_17 ?_
  refine lv_if_le (tgt := 27) hx hb dX6_refuse_20 (by decide) (fun c2 => ?_) (fun c2 => absurd (by rw [h0]; decide) c2)
  refine lv_iconst (v := 0) hx hb dX6_refuse_27 (by decide) ?_
  exact me_z hx hb hr hlocks hw (Or.inl rfl) (by exact rfl) (by rfl) dX6_refuse_28
theorem mX6_refuse_0_1 : (Cond.fieldLink RX6 31 "SaltRowModel" "thrown" "I") ∈ wsX6_refuse := by decide +kernel
theorem iX6_refuse_X6_1 : ∀ w ∈ wsX60, w ∈ wsX6_refuse := by decide +kernel
set_option maxHeartbeats 4000000 in
set_option maxRecDepth 100000 in
theorem zX6_refuse1 (l : Launch) (D : va_G) (a : Nat → Nat) (cs : Nat → ClassId) (N : Nat) (hN : 12 ≤ N) (σ : sS) (x w : Int32) (hx1 : ¬ x = 0) (hw1 : ¬ w ≤ 0) (h0 : σ 10 0 = 0) : mMi l yX6_refuse wsX6_refuse ({ frames := 0, cells := 0, slots := 0, locals := 0 }) 0 0 D a cs N [.ref (a 10), .int x, .int w] σ 1 (m_thr σ w) := by
  intro sz
  refine Met.ofW (cc := cX6_refuse) (maxL := 3) (ret := (some .boolean)) (by decide) rfl ?_
  intro p e s m args below meth c s₁ B hml hv
  obtain ⟨rfl, hsz, hv2⟩ := hv
  have hv3 : mB D a cs N σ sz s := ⟨hsz, hv2⟩
  subst hsz
  have hw := mH_start hv3
  obtain ⟨-, -, hK, -, hN2⟩ := hv3
  have hx := B.exec
  have hb := B.bytes
  have hr := B.returns
  have hts := atoms_spec (ws := wsX6_refuse) B.pre
  have hown : s.vm.findClass RX6 = some m.cls := findClass_of_methodNamed B.named
  have hlocks := B.notSynchronized
  have hA : ∀ q : Nat, s.heap.size ≤ q → mA a N s.heap.size q := mA_new
  have hl := lv_entry ([.ref (a 10), .int x, .int w]) (n := 3) (Nat.le_of_ble_eq_true rfl)
  rw [lg_entry_eq]
  generalize (lg_sl ([.ref (a 10), .int x, .int w]) ++ List.replicate (3 - (lg_sl ([.ref (a 10), .int x, .int w])).length) Slot.unset).toArray = ls at hl ⊢
  have hl : lv_has ls 3 [(0, .ref (a 10)), (1, .int x), (2, .int w)] := hl
  refine lv_iload_n hx hb dX6_refuse_0 rfl (lv_at hl 1 rfl) ?_
  refine lv_if_eq (tgt := 16) hx hb dX6_refuse_1 (by decide) (fun c1 => absurd c1 hx1) (fun c1 => ?_)
  refine lv_aload_n hx hb dX6_refuse_4 rfl (lv_at hl 0 rfl) ?_
  refine mg_o hx hb hts iX6_refuse_X6_1 hown hK hw (by omega) 0 (by decide) (hts _ mX6_refuse_0_1) dX6_refuse_5 ?_
  refine lv_if_ne (tgt := 16) hx hb dX6_refuse_8 (by decide) (fun c2 => absurd h0 c2) (fun c2 => ?_)
  refine lv_aload_n hx hb dX6_refuse_11 rfl (lv_at hl 0 rfl) ?_
  refine lv_iload_n hx hb dX6_refuse_12 rfl (lv_at hl 2 rfl) ?_
  refine mp_o hx hb hts iX6_refuse_X6_1 hown hK hw (by omega) 0 (by decide) (hts _ mX6_refuse_0_1) dX6_refuse_13 (fun H locs hw => ?_)
  obtain ⟨τ3, eτ3⟩ : ∃ zz : sS, va_up σ 10 (upd (σ 10) 0 w) = zz := ⟨_, rfl⟩
  rw [eτ3] at hw
  refine lv_aload_n hx hb dX6_refuse_16 rfl (lv_at hl 0 rfl) ?_
  refine mg_o hx hb hts iX6_refuse_X6_1 hown hK hw (by omega) 0 (by decide) (hts _ mX6_refuse_0_1) dX6_refuse_17 ?_
  refine lv_if_le (tgt := 27) hx hb dX6_refuse_20 (by decide) (fun c4 => absurd c4 (by subst eτ3; exact hw1)) (fun c4 => ?_)
  refine lv_iconst (v := 1) hx hb dX6_refuse_23 (by decide) ?_
  refine lv_goto (tgt := 28) hx hb dX6_refuse_24 (by decide) ?_
  exact me_z hx hb hr hlocks hw (Or.inr rfl) (by rfl) (by subst eτ3; rfl) dX6_refuse_28
theorem mX6_start_0_0 : (Cond.fieldLink RX6 31 "SaltRowModel" "thrown" "I") ∈ wsX6_start := by decide +kernel
theorem iX6_start_X6_0 : ∀ w ∈ wsX60, w ∈ wsX6_start := by decide +kernel
set_option maxHeartbeats 4000000 in
set_option maxRecDepth 100000 in
theorem zX6_start0 (l : Launch) (D : va_G) (a : Nat → Nat) (cs : Nat → ClassId) (N : Nat) (hN : 12 ≤ N) (σ : sS) (x w : Int32) (hx0 : x = 0) : mMi l yX6_start wsX6_start ({ frames := 1, cells := 0, slots := 0, locals := 22 }) 0 0 D a cs N [.ref (a 10), .int x, .int w] σ 0 (m_thr σ 0) := by
  intro sz
  refine Met.ofW (cc := cX6_start) (maxL := 3) (ret := (some .boolean)) (by decide) rfl ?_
  intro p e s m args below meth c s₁ B hml hv
  obtain ⟨rfl, hsz, hv2⟩ := hv
  have hv3 : mB D a cs N σ sz s := ⟨hsz, hv2⟩
  subst hsz
  have hw := mH_start hv3
  obtain ⟨-, -, hK, -, hN2⟩ := hv3
  have hx := B.exec
  have hb := B.bytes
  have hr := B.returns
  have hts := atoms_spec (ws := wsX6_start) B.pre
  have hown : s.vm.findClass RX6 = some m.cls := findClass_of_methodNamed B.named
  have hlocks := B.notSynchronized
  have hA : ∀ q : Nat, s.heap.size ≤ q → mA a N s.heap.size q := mA_new
  have hl := lv_entry ([.ref (a 10), .int x, .int w]) (n := 3) (Nat.le_of_ble_eq_true rfl)
  rw [lg_entry_eq]
  generalize (lg_sl ([.ref (a 10), .int x, .int w]) ++ List.replicate (3 - (lg_sl ([.ref (a 10), .int x, .int w])).length) Slot.unset).toArray = ls at hl ⊢
  have hl : lv_has ls 3 [(0, .ref (a 10)), (1, .int x), (2, .int w)] := hl
  refine lv_aload_n hx hb dX6_start_0 rfl (lv_at hl 0 rfl) ?_
  refine lv_iconst (v := 0) hx hb dX6_start_1 (by decide) ?_
  refine mp_o hx hb hts iX6_start_X6_0 hown hK hw (by omega) 0 (by decide) (hts _ mX6_start_0_0) dX6_start_2 (fun H locs hw => ?_)
  obtain ⟨τ1, eτ1⟩ : ∃ zz : sS, va_up σ 10 (upd (σ 10) 0 0) = zz := ⟨_, rfl⟩
  rw [eτ1] at hw
  refine lv_aload_n hx hb dX6_start_5 rfl (lv_at hl 0 rfl) ?_
  refine lv_iload_n hx hb dX6_start_6 rfl (lv_at hl 1 rfl) ?_
  refine lv_iload_n hx hb dX6_start_7 rfl (lv_at hl 2 rfl) ?_
  refine mc_i (mr_V (i := 10) (As := [.int x, .int w]) (rest := []) ⟨hx, hb, hml, hown, hts⟩ (zX6_refuse0 l D a cs N (by omega) _ x w hx0 (by subst eτ1; rfl) _) (cwV 2 hts gX6_start_X6_refuse rfl rfl rfl (by decide +kernel) ⟨Nat.le_of_ble_eq_true rfl, Nat.le_of_ble_eq_true rfl⟩) hK hN2 hw (by omega) mE_o kcX6 rfl hl.1 (Nat.le_of_ble_eq_true rfl) dX6_start_8 ⟨Nat.le_of_ble_eq_true rfl, Nat.le_of_ble_eq_true rfl⟩) hw hA (fun H locs hw => ?_)
  exact me_z hx hb hr hlocks hw (Or.inl rfl) (by rfl) (by subst eτ1; rfl) dX6_start_11
theorem mX6_start_0_1 : (Cond.fieldLink RX6 31 "SaltRowModel" "thrown" "I") ∈ wsX6_start := by decide +kernel
theorem iX6_start_X6_1 : ∀ w ∈ wsX60, w ∈ wsX6_start := by decide +kernel
set_option maxHeartbeats 4000000 in
set_option maxRecDepth 100000 in
theorem zX6_start1 (l : Launch) (D : va_G) (a : Nat → Nat) (cs : Nat → ClassId) (N : Nat) (hN : 12 ≤ N) (σ : sS) (x w : Int32) (hx1 : ¬ x = 0) (hw1 : ¬ w ≤ 0) : mMi l yX6_start wsX6_start ({ frames := 1, cells := 0, slots := 0, locals := 22 }) 0 0 D a cs N [.ref (a 10), .int x, .int w] σ 1 (m_thr σ w) := by
  intro sz
  refine Met.ofW (cc := cX6_start) (maxL := 3) (ret := (some .boolean)) (by decide) rfl ?_
  intro p e s m args below meth c s₁ B hml hv
  obtain ⟨rfl, hsz, hv2⟩ := hv
  have hv3 : mB D a cs N σ sz s := ⟨hsz, hv2⟩
  subst hsz
  have hw := mH_start hv3
  obtain ⟨-, -, hK, -, hN2⟩ := hv3
  have hx := B.exec
  have hb := B.bytes
  have hr := B.returns
  have hts := atoms_spec (ws := wsX6_start) B.pre
  have hown : s.vm.findClass RX6 = some m.cls := findClass_of_methodNamed B.named
  have hlocks := B.notSynchronized
  have hA : ∀ q : Nat, s.heap.size ≤ q → mA a N s.heap.size q := mA_new
  have hl := lv_entry ([.ref (a 10), .int x, .int w]) (n := 3) (Nat.le_of_ble_eq_true rfl)
  rw [lg_entry_eq]
  generalize (lg_sl ([.ref (a 10), .int x, .int w]) ++ List.replicate (3 - (lg_sl ([.ref (a 10), .int x, .int w])).length) Slot.unset).toArray = ls at hl ⊢
  have hl : lv_has ls 3 [(0, .ref (a 10)), (1, .int x), (2, .int w)] := hl
  refine lv_aload_n hx hb dX6_start_0 rfl (lv_at hl 0 rfl) ?_
  refine lv_iconst (v := 0) hx hb dX6_start_1 (by decide) ?_
  refine mp_o hx hb hts iX6_start_X6_1 hown hK hw (by omega) 0 (by decide) (hts _ mX6_start_0_1) dX6_start_2 (fun H locs hw => ?_)
  obtain ⟨τ1, eτ1⟩ : ∃ zz : sS, va_up σ 10 (upd (σ 10) 0 0) = zz := ⟨_, rfl⟩
  rw [eτ1] at hw
  refine lv_aload_n hx hb dX6_start_5 rfl (lv_at hl 0 rfl) ?_
  refine lv_iload_n hx hb dX6_start_6 rfl (lv_at hl 1 rfl) ?_
  refine lv_iload_n hx hb dX6_start_7 rfl (lv_at hl 2 rfl) ?_
  refine mc_i (mr_V (i := 10) (As := [.int x, .int w]) (rest := []) ⟨hx, hb, hml, hown, hts⟩ (zX6_refuse1 l D a cs N (by omega) _ x w hx1 hw1 (by subst eτ1; rfl) _) (cwV 2 hts gX6_start_X6_refuse rfl rfl rfl (by decide +kernel) ⟨Nat.le_of_ble_eq_true rfl, Nat.le_of_ble_eq_true rfl⟩) hK hN2 hw (by omega) mE_o kcX6 rfl hl.1 (Nat.le_of_ble_eq_true rfl) dX6_start_8 ⟨Nat.le_of_ble_eq_true rfl, Nat.le_of_ble_eq_true rfl⟩) hw hA (fun H locs hw => ?_)
  obtain ⟨τ2, eτ2⟩ : ∃ zz : sS, m_thr τ1 w = zz := ⟨_, rfl⟩
  rw [eτ2] at hw
  exact me_z hx hb hr hlocks hw (Or.inr rfl) (by rfl) (by subst eτ2 eτ1; exact m_thr2 _ _ _) dX6_start_11
