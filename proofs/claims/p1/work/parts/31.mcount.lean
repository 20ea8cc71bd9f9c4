theorem mX6_isNoFamily_0 : (Cond.fieldLink RX6 27 "SaltRowModel" "families" "Ljava/util/ArrayList;") ∈ wsX6_isNoFamily := by decide +kernel
theorem iX6_isNoFamily_X6 : ∀ w ∈ wsX60, w ∈ wsX6_isNoFamily := by decide +kernel
set_option maxHeartbeats 4000000 in
set_option maxRecDepth 100000 in
theorem zX6_isNoFamily (l : Launch) (D : va_G) (a : Nat → Nat) (cs : Nat → ClassId) (N : Nat) (hN : 12 ≤ N) (σ : sS) (h0 : σ 11 2 = 0) (x : Int32) : mMi l yX6_isNoFamily wsX6_isNoFamily ({ frames := 1, cells := 0, slots := 0, locals := 22 }) 0 0 D a cs N [.ref (a 10), .int x] σ 1 σ := by
  intro sz
  refine Met.ofW (cc := cX6_isNoFamily) (maxL := 2) (ret := (some .boolean)) (by decide) rfl ?_
  intro p e s m args below meth c s₁ B hml hv
  obtain ⟨rfl, hsz, hv2⟩ := hv
  have hv3 : mB D a cs N σ sz s := ⟨hsz, hv2⟩
  subst hsz
  have hw := mH_start hv3
  obtain ⟨-, -, hK, -, hN2⟩ := hv3
  have hx := B.exec
  have hb := B.bytes
  have hr := B.returns
  have hts := atoms_spec (ws := wsX6_isNoFamily) B.pre
  have hown : s.vm.findClass RX6 = some m.cls := findClass_of_methodNamed B.named
  have hlocks := B.notSynchronized
  have hA : ∀ q : Nat, s.heap.size ≤ q → mA a N s.heap.size q := mA_new
  have hl := lv_entry ([.ref (a 10), .int x]) (n := 2) (Nat.le_of_ble_eq_true rfl)
  rw [lg_entry_eq]
  generalize (lg_sl ([.ref (a 10), .int x]) ++ List.replicate (2 - (lg_sl ([.ref (a 10), .int x])).length) Slot.unset).toArray = ls at hl ⊢
  have hl : lv_has ls 2 [(0, .ref (a 10)), (1, .int x)] := hl
  refine lv_iload_n hx hb dX6_isNoFamily_0 rfl (lv_at hl 1 rfl) ?_
  refine lv_iconst (v := 0) hx hb dX6_isNoFamily_1 (by decide) ?_
  refine lv_aload_n hx hb dX6_isNoFamily_2 rfl (lv_at hl 0 rfl) ?_
  refine mg_o2 hx hb hts iX6_isNoFamily_X6 hown hK hw (by omega) (hts _ mX6_isNoFamily_0) dX6_isNoFamily_3 ?_
  refine mc_i (mr_V (i := 11) (As := []) (rest := [.int 0, .int x]) ⟨hx, hb, hml, hown, hts⟩ (zJL_size l D a cs N (by omega) _ _) (cwV 0 hts gX6_isNoFamily_Jx4a65c_size_8abf5 rfl rfl rfl (by decide +kernel) ⟨Nat.le_of_ble_eq_true rfl, Nat.le_of_ble_eq_true rfl⟩) hK hN2 hw (by omega) mE_l kcJL rfl hl.1 (Nat.le_of_ble_eq_true rfl) dX6_isNoFamily_6 ⟨Nat.le_of_ble_eq_true rfl, Nat.le_of_ble_eq_true rfl⟩) hw hA (fun H locs hw => ?_)
  refine lv_iconst (v := 1) hx hb dX6_isNoFamily_9 (by decide) ?_
  refine lv_isub hx hb dX6_isNoFamily_10 ?_
  refine mc_i (mr_S (As := [.int x, .int 0, .int ((σ 11 2) - 1)]) (rest := []) ⟨hx, hb, hml, hown, hts⟩ (zX6_isIn l D a cs N (by omega) _ x 0 ((σ 11 2) - 1) _) (va_cwS 3 hts gX6_isNoFamily_X6_isIn rfl rfl rfl (by decide +kernel) ⟨Nat.le_of_ble_eq_true rfl, Nat.le_of_ble_eq_true rfl⟩) hK hN2 hw rfl hl.1 (Nat.le_of_ble_eq_true rfl) dX6_isNoFamily_11 ⟨Nat.le_of_ble_eq_true rfl, Nat.le_of_ble_eq_true rfl⟩) hw hA (fun H locs hw => ?_)
  refine lv_if_ne (tgt := 21) hx hb dX6_isNoFamily_14 (by decide) (fun c1 => absurd (by rw [h0]; exact m_noFam x) c1) (fun c1 => ?_)
  refine lv_iconst (v := 1) hx hb dX6_isNoFamily_17 (by decide) ?_
  refine lv_goto (tgt := 22) hx hb dX6_isNoFamily_18 (by decide) ?_
  exact me_z hx hb hr hlocks hw (Or.inr rfl) (by rfl) (by rfl) dX6_isNoFamily_22
set_option maxHeartbeats 4000000 in
set_option maxRecDepth 100000 in
theorem zX6_right_1 (l : Launch) (D : va_G) (a : Nat → Nat) (cs : Nat → ClassId) (N : Nat) (hN : 12 ≤ N) (σ : sS) (hf0 : σ 11 2 = 0) (x y z : Int32) : mMi l yX6_right wsX6_right ({ frames := 3, cells := 0, slots := 0, locals := 53 }) 0 0 D a cs N [.ref (a 10), .int x, .int y, .int z] σ 0 (m_thr σ 1) := by
  intro sz
  refine Met.ofW (cc := cX6_right) (maxL := 8) (ret := (some .int)) (by decide) rfl ?_
  intro p e s m args below meth c s₁ B hml hv
  obtain ⟨rfl, hsz, hv2⟩ := hv
  have hv3 : mB D a cs N σ sz s := ⟨hsz, hv2⟩
  subst hsz
  have hw := mH_start hv3
  obtain ⟨-, -, hK, -, hN2⟩ := hv3
  have hx := B.exec
  have hb := B.bytes
  have hr := B.returns
  have hts := atoms_spec (ws := wsX6_right) B.pre
  have hown : s.vm.findClass RX6 = some m.cls := findClass_of_methodNamed B.named
  have hlocks := B.notSynchronized
  have hA : ∀ q : Nat, s.heap.size ≤ q → mA a N s.heap.size q := mA_new
  have hl := lv_entry ([.ref (a 10), .int x, .int y, .int z]) (n := 8) (Nat.le_of_ble_eq_true rfl)
  rw [lg_entry_eq]
  generalize (lg_sl ([.ref (a 10), .int x, .int y, .int z]) ++ List.replicate (8 - (lg_sl ([.ref (a 10), .int x, .int y, .int z])).length) Slot.unset).toArray = ls at hl ⊢
  have hl : lv_has ls 8 [(0, .ref (a 10)), (1, .int x), (2, .int y), (3, .int z)] := hl
  refine lv_aload_n hx hb dX6_right_0 rfl (lv_at hl 0 rfl) ?_
  refine lv_aload_n hx hb dX6_right_1 rfl (lv_at hl 0 rfl) ?_
  refine lv_iload_n hx hb dX6_right_2 rfl (lv_at hl 1 rfl) ?_
  refine mc_i (mr_V (i := 10) (As := [.int x]) (rest := [.ref (a 10)]) ⟨hx, hb, hml, hown, hts⟩ (zX6_isNoFamily l D a cs N (by omega) _ (by exact hf0) x _) (cwV 1 hts gX6_right_X6_isNoFamily rfl rfl rfl (by decide +kernel) ⟨Nat.le_of_ble_eq_true rfl, Nat.le_of_ble_eq_true rfl⟩) hK hN2 hw (by omega) mE_o kcX6 rfl hl.1 (Nat.le_of_ble_eq_true rfl) dX6_right_3 ⟨Nat.le_of_ble_eq_true rfl, Nat.le_of_ble_eq_true rfl⟩) hw hA (fun H locs hw => ?_)
  refine lv_if_ne (tgt := 16) hx hb dX6_right_6 (by decide) (fun c1 => ?_) (fun c1 => absurd c1 (by decide))
  refine lv_iconst (v := 1) hx hb dX6_right_16 (by decide) ?_
  refine lv_goto (tgt := 21) hx hb dX6_right_17 (by decide) ?_
  refine lv_iconst (v := 1) hx hb dX6_right_21 (by decide) ?_
  refine mc_i (mr_V (i := 10) (As := [.int 1, .int 1]) (rest := []) ⟨hx, hb, hml, hown, hts⟩ (zX6_start1 l D a cs N (by omega) _ 1 1 (by decide) (by decide)  _) (cwV 2 hts gX6_right_X6_start rfl rfl rfl (by decide +kernel) ⟨Nat.le_of_ble_eq_true rfl, Nat.le_of_ble_eq_true rfl⟩) hK hN2 hw (by omega) mE_o kcX6 rfl hl.1 (Nat.le_of_ble_eq_true rfl) dX6_right_22 ⟨Nat.le_of_ble_eq_true rfl, Nat.le_of_ble_eq_true rfl⟩) hw hA (fun H locs hw => ?_)
  obtain ⟨τ2, eτ2⟩ : ∃ zz : sS, m_thr σ 1 = zz := ⟨_, rfl⟩
  rw [eτ2] at hw
  refine lv_if_ne (tgt := 51) hx hb dX6_right_25 (by decide) (fun c3 => ?_) (fun c3 => absurd c3 (by decide))
  refine lv_iconst (v := 0) hx hb dX6_right_51 (by decide) ?_
  exact me_i hx hb hr hlocks hw (by rfl) (by subst eτ2; rfl) dX6_right_52
set_option maxHeartbeats 4000000 in
set_option maxRecDepth 100000 in
theorem zX6_wash_1 (l : Launch) (D : va_G) (a : Nat → Nat) (cs : Nat → ClassId) (N : Nat) (hN : 12 ≤ N) (σ : sS) (hf0 : σ 11 2 = 0) (x : Int32) : mMi l yX6_wash wsX6_wash ({ frames := 2, cells := 0, slots := 0, locals := 44 }) 0 0 D a cs N [.ref (a 10), .int x] σ 0 (m_thr σ 1) := by
  intro sz
  refine Met.ofW (cc := cX6_wash) (maxL := 4) (ret := (some .int)) (by decide) rfl ?_
  intro p e s m args below meth c s₁ B hml hv
  obtain ⟨rfl, hsz, hv2⟩ := hv
  have hv3 : mB D a cs N σ sz s := ⟨hsz, hv2⟩
  subst hsz
  have hw := mH_start hv3
  obtain ⟨-, -, hK, -, hN2⟩ := hv3
  have hx := B.exec
  have hb := B.bytes
  have hr := B.returns
  have hts := atoms_spec (ws := wsX6_wash) B.pre
  have hown : s.vm.findClass RX6 = some m.cls := findClass_of_methodNamed B.named
  have hlocks := B.notSynchronized
  have hA : ∀ q : Nat, s.heap.size ≤ q → mA a N s.heap.size q := mA_new
  have hl := lv_entry ([.ref (a 10), .int x]) (n := 4) (Nat.le_of_ble_eq_true rfl)
  rw [lg_entry_eq]
  generalize (lg_sl ([.ref (a 10), .int x]) ++ List.replicate (4 - (lg_sl ([.ref (a 10), .int x])).length) Slot.unset).toArray = ls at hl ⊢
  have hl : lv_has ls 4 [(0, .ref (a 10)), (1, .int x)] := hl
  refine lv_aload_n hx hb dX6_wash_0 rfl (lv_at hl 0 rfl) ?_
  refine lv_aload_n hx hb dX6_wash_1 rfl (lv_at hl 0 rfl) ?_
  refine lv_iload_n hx hb dX6_wash_2 rfl (lv_at hl 1 rfl) ?_
  refine mc_i (mr_V (i := 10) (As := [.int x]) (rest := [.ref (a 10)]) ⟨hx, hb, hml, hown, hts⟩ (zX6_isNoFamily l D a cs N (by omega) _ (by exact hf0) x _) (cwV 1 hts gX6_wash_X6_isNoFamily rfl rfl rfl (by decide +kernel) ⟨Nat.le_of_ble_eq_true rfl, Nat.le_of_ble_eq_true rfl⟩) hK hN2 hw (by omega) mE_o kcX6 rfl hl.1 (Nat.le_of_ble_eq_true rfl) dX6_wash_3 ⟨Nat.le_of_ble_eq_true rfl, Nat.le_of_ble_eq_true rfl⟩) hw hA (fun H locs hw => ?_)
  refine lv_iconst (v := 1) hx hb dX6_wash_6 (by decide) ?_
  refine mc_i (mr_V (i := 10) (As := [.int 1, .int 1]) (rest := []) ⟨hx, hb, hml, hown, hts⟩ (zX6_start1 l D a cs N (by omega) _ 1 1 (by decide) (by decide)  _) (cwV 2 hts gX6_wash_X6_start rfl rfl rfl (by decide +kernel) ⟨Nat.le_of_ble_eq_true rfl, Nat.le_of_ble_eq_true rfl⟩) hK hN2 hw (by omega) mE_o kcX6 rfl hl.1 (Nat.le_of_ble_eq_true rfl) dX6_wash_7 ⟨Nat.le_of_ble_eq_true rfl, Nat.le_of_ble_eq_true rfl⟩) hw hA (fun H locs hw => ?_)
  obtain ⟨τ1, eτ1⟩ : ∃ zz : sS, m_thr σ 1 = zz := ⟨_, rfl⟩
  rw [eτ1] at hw
  refine lv_if_ne (tgt := 42) hx hb dX6_wash_10 (by decide) (fun c2 => ?_) (fun c2 => absurd c2 (by decide))
  refine lv_iconst (v := 0) hx hb dX6_wash_42 (by decide) ?_
  exact me_i hx hb hr hlocks hw (by rfl) (by subst eτ1; rfl) dX6_wash_43
set_option maxHeartbeats 4000000 in
set_option maxRecDepth 100000 in
theorem zX6_sell_1 (l : Launch) (D : va_G) (a : Nat → Nat) (cs : Nat → ClassId) (N : Nat) (hN : 12 ≤ N) (σ : sS) (hf0 : σ 11 2 = 0) (x y z : Int32) : mMi l yX6_sell wsX6_sell ({ frames := 2, cells := 0, slots := 0, locals := 44 }) 0 0 D a cs N [.ref (a 10), .int x, .int y, .int z] σ 0 (m_thr σ 1) := by
  intro sz
  refine Met.ofW (cc := cX6_sell) (maxL := 7) (ret := (some .int)) (by decide) rfl ?_
  intro p e s m args below meth c s₁ B hml hv
  obtain ⟨rfl, hsz, hv2⟩ := hv
  have hv3 : mB D a cs N σ sz s := ⟨hsz, hv2⟩
  subst hsz
  have hw := mH_start hv3
  obtain ⟨-, -, hK, -, hN2⟩ := hv3
  have hx := B.exec
  have hb := B.bytes
  have hr := B.returns
  have hts := atoms_spec (ws := wsX6_sell) B.pre
  have hown : s.vm.findClass RX6 = some m.cls := findClass_of_methodNamed B.named
  have hlocks := B.notSynchronized
  have hA : ∀ q : Nat, s.heap.size ≤ q → mA a N s.heap.size q := mA_new
  have hl := lv_entry ([.ref (a 10), .int x, .int y, .int z]) (n := 7) (Nat.le_of_ble_eq_true rfl)
  rw [lg_entry_eq]
  generalize (lg_sl ([.ref (a 10), .int x, .int y, .int z]) ++ List.replicate (7 - (lg_sl ([.ref (a 10), .int x, .int y, .int z])).length) Slot.unset).toArray = ls at hl ⊢
  have hl : lv_has ls 7 [(0, .ref (a 10)), (1, .int x), (2, .int y), (3, .int z)] := hl
  refine lv_aload_n hx hb dX6_sell_0 rfl (lv_at hl 0 rfl) ?_
  refine lv_aload_n hx hb dX6_sell_1 rfl (lv_at hl 0 rfl) ?_
  refine lv_iload_n hx hb dX6_sell_2 rfl (lv_at hl 1 rfl) ?_
  refine mc_i (mr_V (i := 10) (As := [.int x]) (rest := [.ref (a 10)]) ⟨hx, hb, hml, hown, hts⟩ (zX6_isNoFamily l D a cs N (by omega) _ (by exact hf0) x _) (cwV 1 hts gX6_sell_X6_isNoFamily rfl rfl rfl (by decide +kernel) ⟨Nat.le_of_ble_eq_true rfl, Nat.le_of_ble_eq_true rfl⟩) hK hN2 hw (by omega) mE_o kcX6 rfl hl.1 (Nat.le_of_ble_eq_true rfl) dX6_sell_3 ⟨Nat.le_of_ble_eq_true rfl, Nat.le_of_ble_eq_true rfl⟩) hw hA (fun H locs hw => ?_)
  refine lv_iconst (v := 1) hx hb dX6_sell_6 (by decide) ?_
  refine mc_i (mr_V (i := 10) (As := [.int 1, .int 1]) (rest := []) ⟨hx, hb, hml, hown, hts⟩ (zX6_start1 l D a cs N (by omega) _ 1 1 (by decide) (by decide)  _) (cwV 2 hts gX6_sell_X6_start rfl rfl rfl (by decide +kernel) ⟨Nat.le_of_ble_eq_true rfl, Nat.le_of_ble_eq_true rfl⟩) hK hN2 hw (by omega) mE_o kcX6 rfl hl.1 (Nat.le_of_ble_eq_true rfl) dX6_sell_7 ⟨Nat.le_of_ble_eq_true rfl, Nat.le_of_ble_eq_true rfl⟩) hw hA (fun H locs hw => ?_)
  obtain ⟨τ1, eτ1⟩ : ∃ zz : sS, m_thr σ 1 = zz := ⟨_, rfl⟩
  rw [eτ1] at hw
  refine lv_if_ne (tgt := 71) hx hb dX6_sell_10 (by decide) (fun c2 => ?_) (fun c2 => absurd c2 (by decide))
  refine lv_iconst (v := 0) hx hb dX6_sell_71 (by decide) ?_
  exact me_i hx hb hr hlocks hw (by rfl) (by subst eτ1; rfl) dX6_sell_72
set_option maxHeartbeats 4000000 in
set_option maxRecDepth 100000 in
theorem zX6_ofFamily_1 (l : Launch) (D : va_G) (a : Nat → Nat) (cs : Nat → ClassId) (N : Nat) (hN : 12 ≤ N) (σ : sS) (hf0 : σ 11 2 = 0) (x y : Int32) : mMi l yX6_ofFamily wsX6_ofFamily ({ frames := 2, cells := 0, slots := 0, locals := 44 }) 0 0 D a cs N [.ref (a 10), .int x, .int y] σ 0 (m_thr σ 1) := by
  intro sz
  refine Met.ofW (cc := cX6_ofFamily) (maxL := 3) (ret := (some .int)) (by decide) rfl ?_
  intro p e s m args below meth c s₁ B hml hv
  obtain ⟨rfl, hsz, hv2⟩ := hv
  have hv3 : mB D a cs N σ sz s := ⟨hsz, hv2⟩
  subst hsz
  have hw := mH_start hv3
  obtain ⟨-, -, hK, -, hN2⟩ := hv3
  have hx := B.exec
  have hb := B.bytes
  have hr := B.returns
  have hts := atoms_spec (ws := wsX6_ofFamily) B.pre
  have hown : s.vm.findClass RX6 = some m.cls := findClass_of_methodNamed B.named
  have hlocks := B.notSynchronized
  have hA : ∀ q : Nat, s.heap.size ≤ q → mA a N s.heap.size q := mA_new
  have hl := lv_entry ([.ref (a 10), .int x, .int y]) (n := 3) (Nat.le_of_ble_eq_true rfl)
  rw [lg_entry_eq]
  generalize (lg_sl ([.ref (a 10), .int x, .int y]) ++ List.replicate (3 - (lg_sl ([.ref (a 10), .int x, .int y])).length) Slot.unset).toArray = ls at hl ⊢
  have hl : lv_has ls 3 [(0, .ref (a 10)), (1, .int x), (2, .int y)] := hl
  refine lv_aload_n hx hb dX6_ofFamily_0 rfl (lv_at hl 0 rfl) ?_
  refine lv_aload_n hx hb dX6_ofFamily_1 rfl (lv_at hl 0 rfl) ?_
  refine lv_iload_n hx hb dX6_ofFamily_2 rfl (lv_at hl 1 rfl) ?_
  refine mc_i (mr_V (i := 10) (As := [.int x]) (rest := [.ref (a 10)]) ⟨hx, hb, hml, hown, hts⟩ (zX6_isNoFamily l D a cs N (by omega) _ (by exact hf0) x _) (cwV 1 hts gX6_ofFamily_X6_isNoFamily rfl rfl rfl (by decide +kernel) ⟨Nat.le_of_ble_eq_true rfl, Nat.le_of_ble_eq_true rfl⟩) hK hN2 hw (by omega) mE_o kcX6 rfl hl.1 (Nat.le_of_ble_eq_true rfl) dX6_ofFamily_3 ⟨Nat.le_of_ble_eq_true rfl, Nat.le_of_ble_eq_true rfl⟩) hw hA (fun H locs hw => ?_)
  refine lv_iconst (v := 1) hx hb dX6_ofFamily_6 (by decide) ?_
  refine mc_i (mr_V (i := 10) (As := [.int 1, .int 1]) (rest := []) ⟨hx, hb, hml, hown, hts⟩ (zX6_start1 l D a cs N (by omega) _ 1 1 (by decide) (by decide)  _) (cwV 2 hts gX6_ofFamily_X6_start rfl rfl rfl (by decide +kernel) ⟨Nat.le_of_ble_eq_true rfl, Nat.le_of_ble_eq_true rfl⟩) hK hN2 hw (by omega) mE_o kcX6 rfl hl.1 (Nat.le_of_ble_eq_true rfl) dX6_ofFamily_7 ⟨Nat.le_of_ble_eq_true rfl, Nat.le_of_ble_eq_true rfl⟩) hw hA (fun H locs hw => ?_)
  obtain ⟨τ1, eτ1⟩ : ∃ zz : sS, m_thr σ 1 = zz := ⟨_, rfl⟩
  rw [eτ1] at hw
  refine lv_if_ne (tgt := 35) hx hb dX6_ofFamily_10 (by decide) (fun c2 => ?_) (fun c2 => absurd c2 (by decide))
  refine lv_iconst (v := 0) hx hb dX6_ofFamily_35 (by decide) ?_
  refine lv_goto (tgt := 54) hx hb dX6_ofFamily_36 (by decide) ?_
  exact me_i hx hb hr hlocks hw (by rfl) (by subst eτ1; rfl) dX6_ofFamily_54
set_option maxHeartbeats 4000000 in
set_option maxRecDepth 100000 in
theorem zX6_rightOf_1 (l : Launch) (D : va_G) (a : Nat → Nat) (cs : Nat → ClassId) (N : Nat) (hN : 12 ≤ N) (σ : sS) (hf0 : σ 11 2 = 0) (x y : Int32) : mMi l yX6_rightOf wsX6_rightOf ({ frames := 2, cells := 0, slots := 0, locals := 44 }) 0 0 D a cs N [.ref (a 10), .int x, .int y] σ 0 (m_thr σ 1) := by
  intro sz
  refine Met.ofW (cc := cX6_rightOf) (maxL := 3) (ret := (some .int)) (by decide) rfl ?_
  intro p e s m args below meth c s₁ B hml hv
  obtain ⟨rfl, hsz, hv2⟩ := hv
  have hv3 : mB D a cs N σ sz s := ⟨hsz, hv2⟩
  subst hsz
  have hw := mH_start hv3
  obtain ⟨-, -, hK, -, hN2⟩ := hv3
  have hx := B.exec
  have hb := B.bytes
  have hr := B.returns
  have hts := atoms_spec (ws := wsX6_rightOf) B.pre
  have hown : s.vm.findClass RX6 = some m.cls := findClass_of_methodNamed B.named
  have hlocks := B.notSynchronized
  have hA : ∀ q : Nat, s.heap.size ≤ q → mA a N s.heap.size q := mA_new
  have hl := lv_entry ([.ref (a 10), .int x, .int y]) (n := 3) (Nat.le_of_ble_eq_true rfl)
  rw [lg_entry_eq]
  generalize (lg_sl ([.ref (a 10), .int x, .int y]) ++ List.replicate (3 - (lg_sl ([.ref (a 10), .int x, .int y])).length) Slot.unset).toArray = ls at hl ⊢
  have hl : lv_has ls 3 [(0, .ref (a 10)), (1, .int x), (2, .int y)] := hl
  refine lv_aload_n hx hb dX6_rightOf_0 rfl (lv_at hl 0 rfl) ?_
  refine lv_aload_n hx hb dX6_rightOf_1 rfl (lv_at hl 0 rfl) ?_
  refine lv_iload_n hx hb dX6_rightOf_2 rfl (lv_at hl 1 rfl) ?_
  refine mc_i (mr_V (i := 10) (As := [.int x]) (rest := [.ref (a 10)]) ⟨hx, hb, hml, hown, hts⟩ (zX6_isNoFamily l D a cs N (by omega) _ (by exact hf0) x _) (cwV 1 hts gX6_rightOf_X6_isNoFamily rfl rfl rfl (by decide +kernel) ⟨Nat.le_of_ble_eq_true rfl, Nat.le_of_ble_eq_true rfl⟩) hK hN2 hw (by omega) mE_o kcX6 rfl hl.1 (Nat.le_of_ble_eq_true rfl) dX6_rightOf_3 ⟨Nat.le_of_ble_eq_true rfl, Nat.le_of_ble_eq_true rfl⟩) hw hA (fun H locs hw => ?_)
  refine lv_if_ne (tgt := 16) hx hb dX6_rightOf_6 (by decide) (fun c1 => ?_) (fun c1 => absurd c1 (by decide))
  refine lv_iconst (v := 1) hx hb dX6_rightOf_16 (by decide) ?_
  refine lv_goto (tgt := 21) hx hb dX6_rightOf_17 (by decide) ?_
  refine lv_iconst (v := 1) hx hb dX6_rightOf_21 (by decide) ?_
  refine mc_i (mr_V (i := 10) (As := [.int 1, .int 1]) (rest := []) ⟨hx, hb, hml, hown, hts⟩ (zX6_start1 l D a cs N (by omega) _ 1 1 (by decide) (by decide)  _) (cwV 2 hts gX6_rightOf_X6_start rfl rfl rfl (by decide +kernel) ⟨Nat.le_of_ble_eq_true rfl, Nat.le_of_ble_eq_true rfl⟩) hK hN2 hw (by omega) mE_o kcX6 rfl hl.1 (Nat.le_of_ble_eq_true rfl) dX6_rightOf_22 ⟨Nat.le_of_ble_eq_true rfl, Nat.le_of_ble_eq_true rfl⟩) hw hA (fun H locs hw => ?_)
  obtain ⟨τ2, eτ2⟩ : ∃ zz : sS, m_thr σ 1 = zz := ⟨_, rfl⟩
  rw [eτ2] at hw
  refine lv_if_eq (tgt := 32) hx hb dX6_rightOf_25 (by decide) (fun c3 => absurd c3 (by decide)) (fun c3 => ?_)
  refine lv_iconst (v := 0) hx hb dX6_rightOf_28 (by decide) ?_
  refine lv_goto (tgt := 45) hx hb dX6_rightOf_29 (by decide) ?_
  exact me_i hx hb hr hlocks hw (by rfl) (by subst eτ2; rfl) dX6_rightOf_45
set_option maxHeartbeats 4000000 in
set_option maxRecDepth 100000 in
theorem zX6_wouldBe_1 (l : Launch) (D : va_G) (a : Nat → Nat) (cs : Nat → ClassId) (N : Nat) (hN : 12 ≤ N) (σ : sS) (hf0 : σ 11 2 = 0) (p0 y z : Int32) (hp : g_X6_isNoPan p0 = 1) : mMi l yX6_wouldBe wsX6_wouldBe ({ frames := 2, cells := 0, slots := 0, locals := 49 }) 0 0 D a cs N [.ref (a 10), .int p0, .int y, .int z] σ 0 (m_thr σ 1) := by
  intro sz
  refine Met.ofW (cc := cX6_wouldBe) (maxL := 7) (ret := (some .int)) (by decide) rfl ?_
  intro p e s m args below meth c s₁ B hml hv
  obtain ⟨rfl, hsz, hv2⟩ := hv
  have hv3 : mB D a cs N σ sz s := ⟨hsz, hv2⟩
  subst hsz
  have hw := mH_start hv3
  obtain ⟨-, -, hK, -, hN2⟩ := hv3
  have hx := B.exec
  have hb := B.bytes
  have hr := B.returns
  have hts := atoms_spec (ws := wsX6_wouldBe) B.pre
  have hown : s.vm.findClass RX6 = some m.cls := findClass_of_methodNamed B.named
  have hlocks := B.notSynchronized
  have hA : ∀ q : Nat, s.heap.size ≤ q → mA a N s.heap.size q := mA_new
  have hl := lv_entry ([.ref (a 10), .int p0, .int y, .int z]) (n := 7) (Nat.le_of_ble_eq_true rfl)
  rw [lg_entry_eq]
  generalize (lg_sl ([.ref (a 10), .int p0, .int y, .int z]) ++ List.replicate (7 - (lg_sl ([.ref (a 10), .int p0, .int y, .int z])).length) Slot.unset).toArray = ls at hl ⊢
  have hl : lv_has ls 7 [(0, .ref (a 10)), (1, .int p0), (2, .int y), (3, .int z)] := hl
  refine lv_aload_n hx hb dX6_wouldBe_0 rfl (lv_at hl 0 rfl) ?_
  refine lv_iload_n hx hb dX6_wouldBe_1 rfl (lv_at hl 1 rfl) ?_
  refine mc_i (mr_S (As := [.int p0]) (rest := [.ref (a 10)]) ⟨hx, hb, hml, hown, hts⟩ (zX6_isNoPan l D a cs N (by omega) _ p0 _) (va_cwS 1 hts gX6_wouldBe_X6_isNoPan rfl rfl rfl (by decide +kernel) ⟨Nat.le_of_ble_eq_true rfl, Nat.le_of_ble_eq_true rfl⟩) hK hN2 hw rfl hl.1 (Nat.le_of_ble_eq_true rfl) dX6_wouldBe_2 ⟨Nat.le_of_ble_eq_true rfl, Nat.le_of_ble_eq_true rfl⟩) hw hA (fun H locs hw => ?_)
  refine lv_if_ne (tgt := 16) hx hb dX6_wouldBe_5 (by decide) (fun c1 => ?_) (fun c1 => absurd c1 (by rw [hp]; decide))
  refine lv_iconst (v := 1) hx hb dX6_wouldBe_16 (by decide) ?_
  refine lv_goto (tgt := 21) hx hb dX6_wouldBe_17 (by decide) ?_
  refine lv_iconst (v := 1) hx hb dX6_wouldBe_21 (by decide) ?_
  refine mc_i (mr_V (i := 10) (As := [.int 1, .int 1]) (rest := []) ⟨hx, hb, hml, hown, hts⟩ (zX6_start1 l D a cs N (by omega) _ 1 1 (by decide) (by decide)  _) (cwV 2 hts gX6_wouldBe_X6_start rfl rfl rfl (by decide +kernel) ⟨Nat.le_of_ble_eq_true rfl, Nat.le_of_ble_eq_true rfl⟩) hK hN2 hw (by omega) mE_o kcX6 rfl hl.1 (Nat.le_of_ble_eq_true rfl) dX6_wouldBe_22 ⟨Nat.le_of_ble_eq_true rfl, Nat.le_of_ble_eq_true rfl⟩) hw hA (fun H locs hw => ?_)
  obtain ⟨τ2, eτ2⟩ : ∃ zz : sS, m_thr σ 1 = zz := ⟨_, rfl⟩
  rw [eτ2] at hw
  refine lv_if_eq (tgt := 30) hx hb dX6_wouldBe_25 (by decide) (fun c3 => absurd c3 (by decide)) (fun c3 => ?_)
  refine lv_iconst (v := 0) hx hb dX6_wouldBe_28 (by decide) ?_
  exact me_i hx hb hr hlocks hw (by rfl) (by subst eτ2; rfl) dX6_wouldBe_29
set_option maxHeartbeats 4000000 in
set_option maxRecDepth 100000 in
theorem zX6_wouldBe_2 (l : Launch) (D : va_G) (a : Nat → Nat) (cs : Nat → ClassId) (N : Nat) (hN : 12 ≤ N) (σ : sS) (hf0 : σ 11 2 = 0) (q : Nat) (hq : q < 3) (y z : Int32) : mMi l yX6_wouldBe wsX6_wouldBe ({ frames := 2, cells := 0, slots := 0, locals := 49 }) 0 0 D a cs N [.ref (a 10), .int (nI (5 + q)), .int y, .int z] σ 0 (m_thr σ 1) := by
  intro sz
  refine Met.ofW (cc := cX6_wouldBe) (maxL := 7) (ret := (some .int)) (by decide) rfl ?_
  intro p e s m args below meth c s₁ B hml hv
  obtain ⟨rfl, hsz, hv2⟩ := hv
  have hv3 : mB D a cs N σ sz s := ⟨hsz, hv2⟩
  subst hsz
  have hw := mH_start hv3
  obtain ⟨-, -, hK, -, hN2⟩ := hv3
  have hx := B.exec
  have hb := B.bytes
  have hr := B.returns
  have hts := atoms_spec (ws := wsX6_wouldBe) B.pre
  have hown : s.vm.findClass RX6 = some m.cls := findClass_of_methodNamed B.named
  have hlocks := B.notSynchronized
  have hA : ∀ q : Nat, s.heap.size ≤ q → mA a N s.heap.size q := mA_new
  have hl := lv_entry ([.ref (a 10), .int (nI (5 + q)), .int y, .int z]) (n := 7) (Nat.le_of_ble_eq_true rfl)
  rw [lg_entry_eq]
  generalize (lg_sl ([.ref (a 10), .int (nI (5 + q)), .int y, .int z]) ++ List.replicate (7 - (lg_sl ([.ref (a 10), .int (nI (5 + q)), .int y, .int z])).length) Slot.unset).toArray = ls at hl ⊢
  have hl : lv_has ls 7 [(0, .ref (a 10)), (1, .int (nI (5 + q))), (2, .int y), (3, .int z)] := hl
  refine lv_aload_n hx hb dX6_wouldBe_0 rfl (lv_at hl 0 rfl) ?_
  refine lv_iload_n hx hb dX6_wouldBe_1 rfl (lv_at hl 1 rfl) ?_
  refine mc_i (mr_S (As := [.int (nI (5 + q))]) (rest := [.ref (a 10)]) ⟨hx, hb, hml, hown, hts⟩ (zX6_isNoPan l D a cs N (by omega) _ (nI (5 + q)) _) (va_cwS 1 hts gX6_wouldBe_X6_isNoPan rfl rfl rfl (by decide +kernel) ⟨Nat.le_of_ble_eq_true rfl, Nat.le_of_ble_eq_true rfl⟩) hK hN2 hw rfl hl.1 (Nat.le_of_ble_eq_true rfl) dX6_wouldBe_2 ⟨Nat.le_of_ble_eq_true rfl, Nat.le_of_ble_eq_true rfl⟩) hw hA (fun H locs hw => ?_)
  refine lv_if_ne (tgt := 16) hx hb dX6_wouldBe_5 (by decide) (fun c1 => absurd (m_pan hq) c1) (fun c1 => ?_)
  refine lv_aload_n hx hb dX6_wouldBe_8 rfl (lv_at hl 0 rfl) ?_
  refine lv_iload_n hx hb dX6_wouldBe_9 rfl (lv_at hl 3 rfl) ?_
  refine mc_i (mr_V (i := 10) (As := [.int z]) (rest := [.ref (a 10)]) ⟨hx, hb, hml, hown, hts⟩ (zX6_isNoFamily l D a cs N (by omega) _ (by exact hf0) z _) (cwV 1 hts gX6_wouldBe_X6_isNoFamily rfl rfl rfl (by decide +kernel) ⟨Nat.le_of_ble_eq_true rfl, Nat.le_of_ble_eq_true rfl⟩) hK hN2 hw (by omega) mE_o kcX6 rfl hl.1 (Nat.le_of_ble_eq_true rfl) dX6_wouldBe_10 ⟨Nat.le_of_ble_eq_true rfl, Nat.le_of_ble_eq_true rfl⟩) hw hA (fun H locs hw => ?_)
  refine lv_if_eq (tgt := 20) hx hb dX6_wouldBe_13 (by decide) (fun c2 => absurd c2 (by decide)) (fun c2 => ?_)
  refine lv_iconst (v := 1) hx hb dX6_wouldBe_16 (by decide) ?_
  refine lv_goto (tgt := 21) hx hb dX6_wouldBe_17 (by decide) ?_
  refine lv_iconst (v := 1) hx hb dX6_wouldBe_21 (by decide) ?_
  refine mc_i (mr_V (i := 10) (As := [.int 1, .int 1]) (rest := []) ⟨hx, hb, hml, hown, hts⟩ (zX6_start1 l D a cs N (by omega) _ 1 1 (by decide) (by decide)  _) (cwV 2 hts gX6_wouldBe_X6_start rfl rfl rfl (by decide +kernel) ⟨Nat.le_of_ble_eq_true rfl, Nat.le_of_ble_eq_true rfl⟩) hK hN2 hw (by omega) mE_o kcX6 rfl hl.1 (Nat.le_of_ble_eq_true rfl) dX6_wouldBe_22 ⟨Nat.le_of_ble_eq_true rfl, Nat.le_of_ble_eq_true rfl⟩) hw hA (fun H locs hw => ?_)
  obtain ⟨τ3, eτ3⟩ : ∃ zz : sS, m_thr σ 1 = zz := ⟨_, rfl⟩
  rw [eτ3] at hw
  refine lv_if_eq (tgt := 30) hx hb dX6_wouldBe_25 (by decide) (fun c4 => absurd c4 (by decide)) (fun c4 => ?_)
  refine lv_iconst (v := 0) hx hb dX6_wouldBe_28 (by decide) ?_
  exact me_i hx hb hr hlocks hw (by rfl) (by subst eτ3; rfl) dX6_wouldBe_29
theorem mX6_count_0 : (Cond.arrayClass .int) ∈ wsX6_count := by decide +kernel
theorem mX6_count_1 : (Cond.fieldLink RX6 18 "SaltRowModel" "row" "LSaltRowModel$Row;") ∈ wsX6_count := by decide +kernel
theorem iX6_count_X6 : ∀ w ∈ wsX60, w ∈ wsX6_count := by decide +kernel
theorem mX6_count_3 : (Cond.fieldLink RX6 57 "SaltRowModel$Row" "ponds" "[LSaltRowModel$Pond;") ∈ wsX6_count := by decide +kernel
theorem iX6_count_X5 : ∀ w ∈ wsX50, w ∈ wsX6_count := by decide +kernel
theorem mX6_count_5 : (Cond.fieldLink RX6 66 "SaltRowModel$Pond" "isOpen" "Z") ∈ wsX6_count := by decide +kernel
theorem iX6_count_X4 : ∀ w ∈ wsX40, w ∈ wsX6_count := by decide +kernel
theorem mX6_count_7 : (Cond.fieldLink RX6 73 "SaltRowModel$Pond" "isCovered" "Z") ∈ wsX6_count := by decide +kernel
theorem mX6_count_8 : (Cond.fieldLink RX6 100 "SaltRowModel$Pond" "salt" "I") ∈ wsX6_count := by decide +kernel
theorem mX6_count_9 : (Cond.fieldLink RX6 156 "SaltRowModel$Pond" "crust" "I") ∈ wsX6_count := by decide +kernel
theorem mX6_count_10 : (Cond.fieldLink RX6 163 "SaltRowModel$Pond" "dirt" "I") ∈ wsX6_count := by decide +kernel
theorem mX6_count_11 : (Cond.fieldLink RX6 91 "SaltRowModel$Pond" "brine" "I") ∈ wsX6_count := by decide +kernel
theorem mX6_count_12 : (Cond.fieldLink RX6 85 "SaltRowModel$Pond" "fresh" "I") ∈ wsX6_count := by decide +kernel
theorem mX6_count_13 : (Cond.fieldLink RX6 27 "SaltRowModel" "families" "Ljava/util/ArrayList;") ∈ wsX6_count := by decide +kernel
theorem mX6_count_14 : (Cond.fieldLink RX6 54 "SaltRowModel$Row" "day" "I") ∈ wsX6_count := by decide +kernel
theorem mX6_count_15 : (Cond.fieldLink RX6 202 "SaltRowModel$Row" "fromSea" "I") ∈ wsX6_count := by decide +kernel
theorem mX6_count_16 : (Cond.fieldLink RX6 97 "SaltRowModel" "lost" "I") ∈ wsX6_count := by decide +kernel
theorem mX6_count_17 : (Cond.fieldLink RX6 176 "SaltRowModel" "crown" "I") ∈ wsX6_count := by decide +kernel
theorem mX6_count_18 : (Cond.fieldLink RX6 150 "SaltRowModel" "cloister" "I") ∈ wsX6_count := by decide +kernel
theorem mX6_count_19 : (Cond.fieldLink RX6 153 "SaltRowModel" "cloisterDirt" "I") ∈ wsX6_count := by decide +kernel
theorem mX6_count_20 : (Cond.fieldLink RX6 88 "SaltRowModel" "skimmed" "I") ∈ wsX6_count := by decide +kernel
theorem mX6_count_21 : (Cond.fieldLink RX6 113 "SaltRowModel" "coins" "I") ∈ wsX6_count := by decide +kernel
set_option maxHeartbeats 4000000 in
set_option maxRecDepth 100000 in
theorem zX6_count (l : Launch) (D : va_G) (a : Nat → Nat) (cs : Nat → ClassId) (N : Nat) (hN : 12 ≤ N) (σ : sS) (hf : mFr σ) (w : Nat) (hw18 : w < 18) : mMi l yX6_count wsX6_count ({ frames := 3, cells := 3, slots := 27, locals := 53 }) 3 27 D a cs N [.ref (a 10), .int (nI w)] σ 0 σ := by
  intro sz
  refine Met.ofW (cc := cX6_count) (maxL := 9) (ret := (some .int)) (by decide) rfl ?_
  intro p e s m args below meth c s₁ B hml hv
  obtain ⟨rfl, hsz, hv2⟩ := hv
  have hv3 : mB D a cs N σ sz s := ⟨hsz, hv2⟩
  subst hsz
  have hw := mH_start hv3
  obtain ⟨-, -, hK, -, hN2⟩ := hv3
  have hx := B.exec
  have hb := B.bytes
  have hr := B.returns
  have hts := atoms_spec (ws := wsX6_count) B.pre
  have hown : s.vm.findClass RX6 = some m.cls := findClass_of_methodNamed B.named
  have hlocks := B.notSynchronized
  have hA : ∀ q : Nat, s.heap.size ≤ q → mA a N s.heap.size q := mA_new
  have hl := lv_entry ([.ref (a 10), .int (nI w)]) (n := 9) (Nat.le_of_ble_eq_true rfl)
  rw [lg_entry_eq]
  generalize (lg_sl ([.ref (a 10), .int (nI w)]) ++ List.replicate (9 - (lg_sl ([.ref (a 10), .int (nI w)])).length) Slot.unset).toArray = ls at hl ⊢
  have hl : lv_has ls 9 [(0, .ref (a 10)), (1, .int (nI w))] := hl
  refine lv_iconst (v := 0) hx hb dX6_count_0 (by decide) ?_
  refine lv_istore_n (lv' := [(2, .int 0), (0, .ref (a 10)), (1, .int (nI w))]) hx hb dX6_count_1 rfl hl (by decide) rfl (fun ls hl => ?_)
  refine lv_iconst (v := 0) hx hb dX6_count_2 (by decide) ?_
  refine lv_istore_n (lv' := [(3, .int 0), (2, .int 0), (0, .ref (a 10)), (1, .int (nI w))]) hx hb dX6_count_3 rfl hl (by decide) rfl (fun ls hl => ?_)
  refine lv_iconst (v := 5) hx hb dX6_count_4 (by decide) ?_
  refine mx_new (n := 5) hx hb (hts _ mX6_count_0) hK hw hA (by decide) rfl (Nat.le_of_ble_eq_true rfl) (Nat.le_of_ble_eq_true rfl) dX6_count_5 (fun q1 H hw => ?_)
  refine lv_astore (lv' := [(4, .ref q1), (3, .int 0), (2, .int 0), (0, .ref (a 10)), (1, .int (nI w))]) hx hb dX6_count_7 hl (by decide) rfl (fun ls hl => ?_)
  refine lv_iconst (v := 0) hx hb dX6_count_9 (by decide) ?_
  refine lv_istore (lv' := [(5, .int 0), (4, .ref q1), (3, .int 0), (2, .int 0), (0, .ref (a 10)), (1, .int (nI w))]) hx hb dX6_count_10 hl (by decide) rfl (fun ls hl => ?_)
  have loop : ∀ (Q : State → Prop) (n : Nat) (k : Nat) (τ : sS)  (H : Heap) (locs : List Loc) (ls : Array Slot), k + n = 8 ∧ mFr τ → mH D a cs N (mA a N s.heap.size) s.heap τ ([(q1, .inl (cs 1, 5, .inl (fun _ => 0)))]) H locs → lv_has ls 9 [(0, .ref (a 10)), (1, .int (nI w)), (2, .int 0), (3, .int 0), (4, .ref q1), (5, .int (nI k))] → (∀ (H : Heap) (locs : List Loc) (ls : Array Slot), mH D a cs N (mA a N s.heap.size) s.heap (τ) ([(q1, .inl (cs 1, 5, .inl (fun _ => 0)))]) H locs → lv_has ls 9 [(0, .ref (a 10)), (1, .int (nI w)), (2, .int 0), (3, .int 0), (4, .ref q1)] → W p l e { frames := 3, cells := 3, slots := 27, locals := 53 } s m #[Value.ref (a 10), Value.int (nI w)] below meth c H locs 1 5 Q (F0 m 125 ls [])) → W p l e { frames := 3, cells := 3, slots := 27, locals := 53 } s m #[Value.ref (a 10), Value.int (nI w)] below meth c H locs 1 5 Q (F0 m 12 ls []) := by
    intro Q n
    induction n with
    | zero =>
      intro k τ  H locs ls hkn hw hl kont
      refine lv_iload hx hb dX6_count_12 (lv_at hl 5 rfl) ?_
      refine lv_bipush (v := 8) hx hb dX6_count_14 (by decide) ?_
      refine lv_icmp_ge (tgt := 125) hx hb dX6_count_16 (by decide) (fun c2 => ?_) (fun c2 => absurd (by rw [show k = 8 by omega]; decide) c2)
      exact kont H locs ls hw (lv_sub hl [0, 1, 2, 3, 4] rfl)
    | succ n ih =>
      intro k τ  H locs ls hkn hw hl kont
      refine lv_iload hx hb dX6_count_12 (lv_at hl 5 rfl) ?_
      refine lv_bipush (v := 8) hx hb dX6_count_14 (by decide) ?_
      refine lv_icmp_ge (tgt := 125) hx hb dX6_count_16 (by decide) (fun c3 => absurd c3 (nI_ge (a := k) (b := 8) (by omega) (by decide))) (fun c3 => ?_)
      refine lv_aload_n hx hb dX6_count_19 rfl (lv_at hl 0 rfl) ?_
      refine mg_o1 hx hb hts iX6_count_X6 hown hK hw (by omega) (hts _ mX6_count_1) dX6_count_20 ?_
      refine mg_rq hx hb hts iX6_count_X5 hown hK hw (by omega) (hts _ mX6_count_3) dX6_count_23 ?_
      refine lv_iload hx hb dX6_count_26 (lv_at hl 5 rfl) ?_
      refine mg_q (k := k) hx hb hK hw (by omega) (by omega) rfl dX6_count_28 ?_
      refine lv_astore (lv' := [(6, .ref (a (2 + k))), (0, .ref (a 10)), (1, .int (nI w)), (2, .int 0), (3, .int 0), (4, .ref q1), (5, .int (nI k))]) hx hb dX6_count_29 hl (by decide) rfl (fun ls hl => ?_)
      refine lv_iload_n hx hb dX6_count_31 rfl (lv_at hl 3 rfl) ?_
      refine lv_aload hx hb dX6_count_32 (lv_at hl 0 rfl) ?_
      refine mg_p hx hb hts iX6_count_X4 hown hK hw (by omega) (by omega) 8 (by decide) (hts _ mX6_count_5) dX6_count_34 ?_
      refine mc_i (mr_S (As := [.int (τ (2 + k) 8)]) (rest := [.int 0]) ⟨hx, hb, hml, hown, hts⟩ (zX6_one l D a cs N (by omega) _ (τ (2 + k) 8) _) (va_cwS 1 hts gX6_count_X6_one rfl rfl rfl (by decide +kernel) ⟨Nat.le_of_ble_eq_true rfl, Nat.le_of_ble_eq_true rfl⟩) hK hN2 hw rfl hl.1 (Nat.le_of_ble_eq_true rfl) dX6_count_37 ⟨Nat.le_of_ble_eq_true rfl, Nat.le_of_ble_eq_true rfl⟩) hw hA (fun H locs hw => ?_)
      refine lv_iload hx hb dX6_count_40 (lv_at hl 6 rfl) ?_
      refine lv_ishl hx hb dX6_count_42 ?_
      refine lv_ior hx hb dX6_count_43 ?_
      refine w_top0 (v := 0) (by rw [hkn.2.1 k (by omega) 8 (by decide) (by decide)]; exact m_or0 (by omega)) ?_
      refine lv_istore_n (lv' := [(2, .int 0), (6, .ref (a (2 + k))), (0, .ref (a 10)), (1, .int (nI w)), (3, .int 0), (4, .ref q1), (5, .int (nI k))]) hx hb dX6_count_44 rfl hl (by decide) rfl (fun ls hl => ?_)
      refine lv_iload_n hx hb dX6_count_45 rfl (lv_at hl 4 rfl) ?_
      refine lv_aload hx hb dX6_count_46 (lv_at hl 1 rfl) ?_
      refine mg_p hx hb hts iX6_count_X4 hown hK hw (by omega) (by omega) 9 (by decide) (hts _ mX6_count_7) dX6_count_48 ?_
      refine mc_i (mr_S (As := [.int (τ (2 + k) 9)]) (rest := [.int 0]) ⟨hx, hb, hml, hown, hts⟩ (zX6_one l D a cs N (by omega) _ (τ (2 + k) 9) _) (va_cwS 1 hts gX6_count_X6_one rfl rfl rfl (by decide +kernel) ⟨Nat.le_of_ble_eq_true rfl, Nat.le_of_ble_eq_true rfl⟩) hK hN2 hw rfl hl.1 (Nat.le_of_ble_eq_true rfl) dX6_count_51 ⟨Nat.le_of_ble_eq_true rfl, Nat.le_of_ble_eq_true rfl⟩) hw hA (fun H locs hw => ?_)
      refine lv_iload hx hb dX6_count_54 (lv_at hl 6 rfl) ?_
      refine lv_ishl hx hb dX6_count_56 ?_
      refine lv_ior hx hb dX6_count_57 ?_
      refine w_top0 (v := 0) (by rw [hkn.2.1 k (by omega) 9 (by decide) (by decide)]; exact m_or0 (by omega)) ?_
      refine lv_istore_n (lv' := [(3, .int 0), (2, .int 0), (6, .ref (a (2 + k))), (0, .ref (a 10)), (1, .int (nI w)), (4, .ref q1), (5, .int (nI k))]) hx hb dX6_count_58 rfl hl (by decide) rfl (fun ls hl => ?_)
      refine lv_aload hx hb dX6_count_59 (lv_at hl 5 rfl) ?_
      refine lv_iconst (v := 0) hx hb dX6_count_61 (by decide) ?_
      refine lv_dup2_11 hx hb dX6_count_62 rfl rfl ?_
      refine mx_ld (n := 5) (k := 0) (f := (fun _ => 0)) hx hb hK hw 0 rfl (by decide) (by decide) rfl dX6_count_63 ?_
      refine lv_aload hx hb dX6_count_64 (lv_at hl 2 rfl) ?_
      refine mg_p hx hb hts iX6_count_X4 hown hK hw (by omega) (by omega) 2 (by decide) (hts _ mX6_count_8) dX6_count_66 ?_
      refine lv_iadd hx hb dX6_count_69 ?_
      refine w_top0 (v := 0) (by rw [hkn.2.1 k (by omega) 2 (by decide) (by decide)]; rfl) ?_
      refine mx_st (n := 5) (k := 0) (f := (fun _ => 0)) hx hb hK hw 0 rfl (by decide) (by decide) rfl dX6_count_70 (fun H locs hw => ?_)
      rw [m_updz] at hw
      have hw : mH D a cs N (mA a N s.heap.size) s.heap τ ([(q1, .inl (cs 1, 5, .inl (fun _ => 0)))]) H locs := hw
      refine lv_aload hx hb dX6_count_71 (lv_at hl 5 rfl) ?_
      refine lv_iconst (v := 1) hx hb dX6_count_73 (by decide) ?_
      refine lv_dup2_11 hx hb dX6_count_74 rfl rfl ?_
      refine mx_ld (n := 5) (k := 1) (f := (fun _ => 0)) hx hb hK hw 0 rfl (by decide) (by decide) rfl dX6_count_75 ?_
      refine lv_aload hx hb dX6_count_76 (lv_at hl 2 rfl) ?_
      refine mg_p hx hb hts iX6_count_X4 hown hK hw (by omega) (by omega) 6 (by decide) (hts _ mX6_count_9) dX6_count_78 ?_
      refine lv_iadd hx hb dX6_count_81 ?_
      refine w_top0 (v := 0) (by rw [hkn.2.1 k (by omega) 6 (by decide) (by decide)]; rfl) ?_
      refine mx_st (n := 5) (k := 1) (f := (fun _ => 0)) hx hb hK hw 0 rfl (by decide) (by decide) rfl dX6_count_82 (fun H locs hw => ?_)
      rw [m_updz] at hw
      have hw : mH D a cs N (mA a N s.heap.size) s.heap τ ([(q1, .inl (cs 1, 5, .inl (fun _ => 0)))]) H locs := hw
      refine lv_aload hx hb dX6_count_83 (lv_at hl 5 rfl) ?_
      refine lv_iconst (v := 2) hx hb dX6_count_85 (by decide) ?_
      refine lv_dup2_11 hx hb dX6_count_86 rfl rfl ?_
      refine mx_ld (n := 5) (k := 2) (f := (fun _ => 0)) hx hb hK hw 0 rfl (by decide) (by decide) rfl dX6_count_87 ?_
      refine lv_aload hx hb dX6_count_88 (lv_at hl 2 rfl) ?_
      refine mg_p hx hb hts iX6_count_X4 hown hK hw (by omega) (by omega) 7 (by decide) (hts _ mX6_count_10) dX6_count_90 ?_
      refine lv_iadd hx hb dX6_count_93 ?_
      refine w_top0 (v := 0) (by rw [hkn.2.1 k (by omega) 7 (by decide) (by decide)]; rfl) ?_
      refine mx_st (n := 5) (k := 2) (f := (fun _ => 0)) hx hb hK hw 0 rfl (by decide) (by decide) rfl dX6_count_94 (fun H locs hw => ?_)
      rw [m_updz] at hw
      have hw : mH D a cs N (mA a N s.heap.size) s.heap τ ([(q1, .inl (cs 1, 5, .inl (fun _ => 0)))]) H locs := hw
      refine lv_aload hx hb dX6_count_95 (lv_at hl 5 rfl) ?_
      refine lv_iconst (v := 3) hx hb dX6_count_97 (by decide) ?_
      refine lv_dup2_11 hx hb dX6_count_98 rfl rfl ?_
      refine mx_ld (n := 5) (k := 3) (f := (fun _ => 0)) hx hb hK hw 0 rfl (by decide) (by decide) rfl dX6_count_99 ?_
      refine lv_aload hx hb dX6_count_100 (lv_at hl 2 rfl) ?_
      refine mg_p hx hb hts iX6_count_X4 hown hK hw (by omega) (by omega) 1 (by decide) (hts _ mX6_count_11) dX6_count_102 ?_
      refine lv_iadd hx hb dX6_count_105 ?_
      refine w_top0 (v := 0) (by rw [hkn.2.1 k (by omega) 1 (by decide) (by decide)]; rfl) ?_
      refine mx_st (n := 5) (k := 3) (f := (fun _ => 0)) hx hb hK hw 0 rfl (by decide) (by decide) rfl dX6_count_106 (fun H locs hw => ?_)
      rw [m_updz] at hw
      have hw : mH D a cs N (mA a N s.heap.size) s.heap τ ([(q1, .inl (cs 1, 5, .inl (fun _ => 0)))]) H locs := hw
      refine lv_aload hx hb dX6_count_107 (lv_at hl 5 rfl) ?_
      refine lv_iconst (v := 4) hx hb dX6_count_109 (by decide) ?_
      refine lv_dup2_11 hx hb dX6_count_110 rfl rfl ?_
      refine mx_ld (n := 5) (k := 4) (f := (fun _ => 0)) hx hb hK hw 0 rfl (by decide) (by decide) rfl dX6_count_111 ?_
      refine lv_aload hx hb dX6_count_112 (lv_at hl 2 rfl) ?_
      refine mg_p hx hb hts iX6_count_X4 hown hK hw (by omega) (by omega) 5 (by decide) (hts _ mX6_count_12) dX6_count_114 ?_
      refine lv_iadd hx hb dX6_count_117 ?_
      refine w_top0 (v := 0) (by rw [hkn.2.1 k (by omega) 5 (by decide) (by decide)]; rfl) ?_
      refine mx_st (n := 5) (k := 4) (f := (fun _ => 0)) hx hb hK hw 0 rfl (by decide) (by decide) rfl dX6_count_118 (fun H locs hw => ?_)
      rw [m_updz] at hw
      have hw : mH D a cs N (mA a N s.heap.size) s.heap τ ([(q1, .inl (cs 1, 5, .inl (fun _ => 0)))]) H locs := hw
      refine lv_iinc (v := nI (k + 1)) (lv' := [(5, .int (nI (k + 1))), (3, .int 0), (2, .int 0), (6, .ref (a (2 + k))), (0, .ref (a 10)), (1, .int (nI w)), (4, .ref q1)]) hx hb dX6_count_119 hl (k := 6) rfl (nI_1 k) (by decide) rfl (fun ls hl => ?_)
      refine lv_goto (tgt := 12) hx hb dX6_count_122 (by decide) ?_
      have hstep : τ = τ := by
        rfl
      exact ih (k + 1) τ  H locs ls ⟨by omega, hkn.2⟩ hw (lv_sub hl [4, 5, 2, 1, 6, 0] rfl) (fun H locs ls hw hl => kont H locs ls (by rw [hstep]; exact hw) (by exact hl))
  refine loop _ 8 0 σ  _ _ _ ⟨by decide, hf⟩ hw (lv_sub hl [4, 5, 3, 2, 1, 0] rfl) (fun H locs ls hw hl => ?_)
  obtain ⟨τ4, eτ4⟩ : ∃ zz : sS, σ = zz := ⟨_, rfl⟩
  rw [eτ4] at hw
  refine lv_iconst (v := 0) hx hb dX6_count_125 (by decide) ?_
  refine lv_istore (lv' := [(5, .int 0), (0, .ref (a 10)), (1, .int (nI w)), (2, .int 0), (3, .int 0), (4, .ref q1)]) hx hb dX6_count_126 hl (by decide) rfl (fun ls hl => ?_)
  refine lv_iconst (v := 0) hx hb dX6_count_128 (by decide) ?_
  refine lv_istore (lv' := [(6, .int 0), (5, .int 0), (0, .ref (a 10)), (1, .int (nI w)), (2, .int 0), (3, .int 0), (4, .ref q1)]) hx hb dX6_count_129 hl (by decide) rfl (fun ls hl => ?_)
  refine lv_aload_n hx hb dX6_count_131 rfl (lv_at hl 2 rfl) ?_
  refine mg_o2 hx hb hts iX6_count_X6 hown hK hw (by omega) (hts _ mX6_count_13) dX6_count_132 ?_
  refine va_callr (va_runV (As := []) (rest := []) ⟨hx, hb, hml, hown, hts⟩ (zJL_iter l D (a 11) (a 12) _ (τ4 11)) (cwV 0 hts gX6_count_Jx4a65c_iterator_32c93 rfl rfl rfl (by decide +kernel) ⟨Nat.le_of_ble_eq_true rfl, Nat.le_of_ble_eq_true rfl⟩) ⟨fun v U g mk z => by obtain ⟨z0, z1, zP, zK, zD⟩ := z; exact ⟨z0, z1, zP, va_K.moved (u := U) (U := U.calling g mk v) (Vm.Alike.refl U.vm) zK, zD⟩, va_recv hK (mP_one (i := 11) hw (by omega)) (ci := kJL) (q0 := 0) kcJL rfl, fun U hU hW => ⟨rfl, by rw [hU], by rw [hU]; exact mP_one (i := 11) hw (by omega), va_K.moved hW.alike (hK.sub (tys' := []) [] rfl), (mD_one (i := 11) hw (by omega)).weaken (fun _ _ _ _ => trivial)⟩⟩ rfl rfl hl.1 rfl (lv_room (Nat.le_of_ble_eq_true rfl)) dX6_count_135 ⟨Nat.le_of_ble_eq_true rfl, Nat.le_of_ble_eq_true rfl⟩) hw.2.2 (fun q _ h => mA_one (i := 11) hw hA (by omega) q h) (fun q h => mA_one (i := 11) hw hA (by omega) q h) (fun _ q5 t H1 locs ht hvm _ hB hz1 hk1 hS => ?_)
  obtain ⟨hP1, hD1⟩ := hB
  rw [ht] at hP1
  have hw := mH_one (i := 11) (x := q5) (ex := mIt (a 11) (τ4 11 0)) hw hA (by omega) hk1 hP1 hD1 hS
  clear hP1 hD1 hk1 hz1 hS ht
  generalize H1 = H at hw ⊢
  refine lv_astore (lv' := [(7, .ref q5), (6, .int 0), (5, .int 0), (0, .ref (a 10)), (1, .int (nI w)), (2, .int 0), (3, .int 0), (4, .ref q1)]) hx hb dX6_count_138 hl (by decide) rfl (fun ls hl => ?_)
  refine lv_aload hx hb dX6_count_140 (lv_at hl 0 rfl) ?_
  refine va_callFi (va_runF (As := []) (rest := []) (hK.1 kJI _ kcJI).2 ⟨hx, hb, hml, hown, hts⟩ (zJI_hasNext l D q5 (a 11) (a 12) _ (τ4 11 0) (τ4 11) (by subst eτ4; exact hf.2.2.2.2.2.2)) (va_cwF 0 hts gX6_count_Jx35411_hasNext_aae02_f136Jx35411 rfl rfl rfl (mN_HN hN2) (by decide +kernel) ⟨Nat.le_of_ble_eq_true rfl, Nat.le_of_ble_eq_true rfl⟩) ⟨fun v U g mk z => by obtain ⟨z0, z1, zP, zK, zN⟩ := z; exact ⟨z0, z1, zP, va_K.moved (u := U) (U := U.calling g mk v) (Vm.Alike.refl U.vm) zK, mN_same (u := U) (U := U.calling g mk v) rfl zN⟩, va_recv hK (mP_two (i := 11) (j := 1) (q := q5) (ex := mIt (a 11) (τ4 11 0)) hw (by omega) rfl) (ci := kJI) (q0 := 0) kcJI rfl, fun U hU hW => ⟨rfl, by rw [hU], by rw [hU]; exact mP_two (i := 11) (j := 1) (q := q5) (ex := mIt (a 11) (τ4 11 0)) hw (by omega) rfl, va_K.moved hW.alike (hK.sub (tys' := []) [] rfl), mN_warm hW hN2⟩⟩ rfl rfl hl.1 rfl (lv_room (Nat.le_of_ble_eq_true rfl)) dX6_count_142 ⟨Nat.le_of_ble_eq_true rfl, Nat.le_of_ble_eq_true rfl⟩) hw.2.2 (fun q h1 h2 => absurd h1 (Nat.not_lt.mpr h2)) (fun q h => hA q (Nat.le_trans hw.2.2.1 h)) (fun r _ t H1 locs ht hvm hr0 _ hz1 hk1 hS => ?_)
  subst hr0
  have hw := mH_dropx (mH_same hw hk1 hS)
  clear hk1 hz1 hS ht
  generalize H1 = H at hw ⊢
  refine lv_if_eq (tgt := 183) hx hb dX6_count_147 (by decide) (fun c6 => ?_) (fun c6 => absurd (by decide) c6)
  refine lv_bipush (v := 18) hx hb dX6_count_183 (by decide) ?_
  refine mx_new (n := 18) hx hb (hts _ mX6_count_0) hK hw hA (by decide) rfl (Nat.le_of_ble_eq_true rfl) (Nat.le_of_ble_eq_true rfl) dX6_count_185 (fun q7 H hw => ?_)
  refine lv_dup hx hb dX6_count_187 rfl ?_
  refine lv_iconst (v := 0) hx hb dX6_count_188 (by decide) ?_
  refine lv_aload_n hx hb dX6_count_189 rfl (lv_at hl 3 rfl) ?_
  refine mg_o1 hx hb hts iX6_count_X6 hown hK hw (by omega) (hts _ mX6_count_1) dX6_count_190 ?_
  refine mg_r hx hb hts iX6_count_X5 hown hK hw (by omega) 1 (by decide) (hts _ mX6_count_14) dX6_count_193 ?_
  refine w_top0 (v := 0) (by subst eτ4; exact hf.2.2.2.1) ?_
  refine mx_st (n := 18) (k := 0) (f := (fun _ => 0)) hx hb hK hw 1 rfl (by decide) (by decide) rfl dX6_count_196 (fun H locs hw => ?_)
  rw [m_updz] at hw
  have hw : mH D a cs N (mA a N s.heap.size) s.heap τ4 ([(q1, .inl (cs 1, 5, .inl (fun _ => 0))), (q7, .inl (cs 1, 18, .inl (fun _ => 0)))]) H locs := hw
  refine lv_dup hx hb dX6_count_197 rfl ?_
  refine lv_iconst (v := 1) hx hb dX6_count_198 (by decide) ?_
  refine lv_aload_n hx hb dX6_count_199 rfl (lv_at hl 3 rfl) ?_
  refine mg_o2 hx hb hts iX6_count_X6 hown hK hw (by omega) (hts _ mX6_count_13) dX6_count_200 ?_
  refine mc_i (mr_V (i := 11) (As := []) (rest := [.int 1, .ref q7, .ref q7]) ⟨hx, hb, hml, hown, hts⟩ (zJL_size l D a cs N (by omega) _ _) (cwV 0 hts gX6_count_Jx4a65c_size_8abf5 rfl rfl rfl (by decide +kernel) ⟨Nat.le_of_ble_eq_true rfl, Nat.le_of_ble_eq_true rfl⟩) hK hN2 hw (by omega) mE_l kcJL rfl hl.1 (Nat.le_of_ble_eq_true rfl) dX6_count_203 ⟨Nat.le_of_ble_eq_true rfl, Nat.le_of_ble_eq_true rfl⟩) hw hA (fun H locs hw => ?_)
  refine w_top0 (v := 0) (by subst eτ4; exact hf.2.2.2.2.2.2) ?_
  refine mx_st (n := 18) (k := 1) (f := (fun _ => 0)) hx hb hK hw 1 rfl (by decide) (by decide) rfl dX6_count_206 (fun H locs hw => ?_)
  rw [m_updz] at hw
  have hw : mH D a cs N (mA a N s.heap.size) s.heap τ4 ([(q1, .inl (cs 1, 5, .inl (fun _ => 0))), (q7, .inl (cs 1, 18, .inl (fun _ => 0)))]) H locs := hw
  refine lv_dup hx hb dX6_count_207 rfl ?_
  refine lv_iconst (v := 2) hx hb dX6_count_208 (by decide) ?_
  refine lv_iload_n hx hb dX6_count_209 rfl (lv_at hl 5 rfl) ?_
  refine mx_st (n := 18) (k := 2) (f := (fun _ => 0)) hx hb hK hw 1 rfl (by decide) (by decide) rfl dX6_count_210 (fun H locs hw => ?_)
  rw [m_updz] at hw
  have hw : mH D a cs N (mA a N s.heap.size) s.heap τ4 ([(q1, .inl (cs 1, 5, .inl (fun _ => 0))), (q7, .inl (cs 1, 18, .inl (fun _ => 0)))]) H locs := hw
  refine lv_dup hx hb dX6_count_211 rfl ?_
  refine lv_iconst (v := 3) hx hb dX6_count_212 (by decide) ?_
  refine lv_iload_n hx hb dX6_count_213 rfl (lv_at hl 6 rfl) ?_
  refine mx_st (n := 18) (k := 3) (f := (fun _ => 0)) hx hb hK hw 1 rfl (by decide) (by decide) rfl dX6_count_214 (fun H locs hw => ?_)
  rw [m_updz] at hw
  have hw : mH D a cs N (mA a N s.heap.size) s.heap τ4 ([(q1, .inl (cs 1, 5, .inl (fun _ => 0))), (q7, .inl (cs 1, 18, .inl (fun _ => 0)))]) H locs := hw
  refine lv_dup hx hb dX6_count_215 rfl ?_
  refine lv_iconst (v := 4) hx hb dX6_count_216 (by decide) ?_
  refine lv_aload_n hx hb dX6_count_217 rfl (lv_at hl 3 rfl) ?_
  refine mg_o1 hx hb hts iX6_count_X6 hown hK hw (by omega) (hts _ mX6_count_1) dX6_count_218 ?_
  refine mg_r hx hb hts iX6_count_X5 hown hK hw (by omega) 2 (by decide) (hts _ mX6_count_15) dX6_count_221 ?_
  refine w_top0 (v := 0) (by subst eτ4; exact hf.2.2.2.2.1) ?_
  refine mx_st (n := 18) (k := 4) (f := (fun _ => 0)) hx hb hK hw 1 rfl (by decide) (by decide) rfl dX6_count_224 (fun H locs hw => ?_)
  rw [m_updz] at hw
  have hw : mH D a cs N (mA a N s.heap.size) s.heap τ4 ([(q1, .inl (cs 1, 5, .inl (fun _ => 0))), (q7, .inl (cs 1, 18, .inl (fun _ => 0)))]) H locs := hw
  refine lv_dup hx hb dX6_count_225 rfl ?_
  refine lv_iconst (v := 5) hx hb dX6_count_226 (by decide) ?_
  refine lv_aload hx hb dX6_count_227 (lv_at hl 7 rfl) ?_
  refine lv_iconst (v := 0) hx hb dX6_count_229 (by decide) ?_
  refine mx_ld (n := 5) (k := 0) (f := (fun _ => 0)) hx hb hK hw 0 rfl (by decide) (by decide) rfl dX6_count_230 ?_
  refine w_top0 (v := 0) (by subst eτ4; rfl) ?_
  refine mx_st (n := 18) (k := 5) (f := (fun _ => 0)) hx hb hK hw 1 rfl (by decide) (by decide) rfl dX6_count_231 (fun H locs hw => ?_)
  rw [m_updz] at hw
  have hw : mH D a cs N (mA a N s.heap.size) s.heap τ4 ([(q1, .inl (cs 1, 5, .inl (fun _ => 0))), (q7, .inl (cs 1, 18, .inl (fun _ => 0)))]) H locs := hw
  refine lv_dup hx hb dX6_count_232 rfl ?_
  refine lv_bipush (v := 6) hx hb dX6_count_233 (by decide) ?_
  refine lv_aload hx hb dX6_count_235 (lv_at hl 7 rfl) ?_
  refine lv_iconst (v := 1) hx hb dX6_count_237 (by decide) ?_
  refine mx_ld (n := 5) (k := 1) (f := (fun _ => 0)) hx hb hK hw 0 rfl (by decide) (by decide) rfl dX6_count_238 ?_
  refine w_top0 (v := 0) (by subst eτ4; rfl) ?_
  refine mx_st (n := 18) (k := 6) (f := (fun _ => 0)) hx hb hK hw 1 rfl (by decide) (by decide) rfl dX6_count_239 (fun H locs hw => ?_)
  rw [m_updz] at hw
  have hw : mH D a cs N (mA a N s.heap.size) s.heap τ4 ([(q1, .inl (cs 1, 5, .inl (fun _ => 0))), (q7, .inl (cs 1, 18, .inl (fun _ => 0)))]) H locs := hw
  refine lv_dup hx hb dX6_count_240 rfl ?_
  refine lv_bipush (v := 7) hx hb dX6_count_241 (by decide) ?_
  refine lv_iload hx hb dX6_count_243 (lv_at hl 2 rfl) ?_
  refine mx_st (n := 18) (k := 7) (f := (fun _ => 0)) hx hb hK hw 1 rfl (by decide) (by decide) rfl dX6_count_245 (fun H locs hw => ?_)
  rw [m_updz] at hw
  have hw : mH D a cs N (mA a N s.heap.size) s.heap τ4 ([(q1, .inl (cs 1, 5, .inl (fun _ => 0))), (q7, .inl (cs 1, 18, .inl (fun _ => 0)))]) H locs := hw
  refine lv_dup hx hb dX6_count_246 rfl ?_
  refine lv_bipush (v := 8) hx hb dX6_count_247 (by decide) ?_
  refine lv_iload hx hb dX6_count_249 (lv_at hl 1 rfl) ?_
  refine mx_st (n := 18) (k := 8) (f := (fun _ => 0)) hx hb hK hw 1 rfl (by decide) (by decide) rfl dX6_count_251 (fun H locs hw => ?_)
  rw [m_updz] at hw
  have hw : mH D a cs N (mA a N s.heap.size) s.heap τ4 ([(q1, .inl (cs 1, 5, .inl (fun _ => 0))), (q7, .inl (cs 1, 18, .inl (fun _ => 0)))]) H locs := hw
  refine lv_dup hx hb dX6_count_252 rfl ?_
  refine lv_bipush (v := 9) hx hb dX6_count_253 (by decide) ?_
  refine lv_aload_n hx hb dX6_count_255 rfl (lv_at hl 3 rfl) ?_
  refine mg_o hx hb hts iX6_count_X6 hown hK hw (by omega) 5 (by decide) (hts _ mX6_count_16) dX6_count_256 ?_
  refine w_top0 (v := 0) (by subst eτ4; exact hf.2.2.2.2.2.1 5 (by decide) (by decide)) ?_
  refine mx_st (n := 18) (k := 9) (f := (fun _ => 0)) hx hb hK hw 1 rfl (by decide) (by decide) rfl dX6_count_259 (fun H locs hw => ?_)
  rw [m_updz] at hw
  have hw : mH D a cs N (mA a N s.heap.size) s.heap τ4 ([(q1, .inl (cs 1, 5, .inl (fun _ => 0))), (q7, .inl (cs 1, 18, .inl (fun _ => 0)))]) H locs := hw
  refine lv_dup hx hb dX6_count_260 rfl ?_
  refine lv_bipush (v := 10) hx hb dX6_count_261 (by decide) ?_
  refine lv_aload_n hx hb dX6_count_263 rfl (lv_at hl 3 rfl) ?_
  refine mg_o hx hb hts iX6_count_X6 hown hK hw (by omega) 6 (by decide) (hts _ mX6_count_17) dX6_count_264 ?_
  refine w_top0 (v := 0) (by subst eτ4; exact hf.2.2.2.2.2.1 6 (by decide) (by decide)) ?_
  refine mx_st (n := 18) (k := 10) (f := (fun _ => 0)) hx hb hK hw 1 rfl (by decide) (by decide) rfl dX6_count_267 (fun H locs hw => ?_)
  rw [m_updz] at hw
  have hw : mH D a cs N (mA a N s.heap.size) s.heap τ4 ([(q1, .inl (cs 1, 5, .inl (fun _ => 0))), (q7, .inl (cs 1, 18, .inl (fun _ => 0)))]) H locs := hw
  refine lv_dup hx hb dX6_count_268 rfl ?_
  refine lv_bipush (v := 11) hx hb dX6_count_269 (by decide) ?_
  refine lv_aload_n hx hb dX6_count_271 rfl (lv_at hl 3 rfl) ?_
  refine mg_o hx hb hts iX6_count_X6 hown hK hw (by omega) 7 (by decide) (hts _ mX6_count_18) dX6_count_272 ?_
  refine w_top0 (v := 0) (by subst eτ4; exact hf.2.2.2.2.2.1 7 (by decide) (by decide)) ?_
  refine mx_st (n := 18) (k := 11) (f := (fun _ => 0)) hx hb hK hw 1 rfl (by decide) (by decide) rfl dX6_count_275 (fun H locs hw => ?_)
  rw [m_updz] at hw
  have hw : mH D a cs N (mA a N s.heap.size) s.heap τ4 ([(q1, .inl (cs 1, 5, .inl (fun _ => 0))), (q7, .inl (cs 1, 18, .inl (fun _ => 0)))]) H locs := hw
  refine lv_dup hx hb dX6_count_276 rfl ?_
  refine lv_bipush (v := 12) hx hb dX6_count_277 (by decide) ?_
  refine lv_aload hx hb dX6_count_279 (lv_at hl 7 rfl) ?_
  refine lv_iconst (v := 2) hx hb dX6_count_281 (by decide) ?_
  refine mx_ld (n := 5) (k := 2) (f := (fun _ => 0)) hx hb hK hw 0 rfl (by decide) (by decide) rfl dX6_count_282 ?_
  refine w_top0 (v := 0) (by subst eτ4; rfl) ?_
  refine mx_st (n := 18) (k := 12) (f := (fun _ => 0)) hx hb hK hw 1 rfl (by decide) (by decide) rfl dX6_count_283 (fun H locs hw => ?_)
  rw [m_updz] at hw
  have hw : mH D a cs N (mA a N s.heap.size) s.heap τ4 ([(q1, .inl (cs 1, 5, .inl (fun _ => 0))), (q7, .inl (cs 1, 18, .inl (fun _ => 0)))]) H locs := hw
  refine lv_dup hx hb dX6_count_284 rfl ?_
  refine lv_bipush (v := 13) hx hb dX6_count_285 (by decide) ?_
  refine lv_aload_n hx hb dX6_count_287 rfl (lv_at hl 3 rfl) ?_
  refine mg_o hx hb hts iX6_count_X6 hown hK hw (by omega) 8 (by decide) (hts _ mX6_count_19) dX6_count_288 ?_
  refine w_top0 (v := 0) (by subst eτ4; exact hf.2.2.2.2.2.1 8 (by decide) (by decide)) ?_
  refine mx_st (n := 18) (k := 13) (f := (fun _ => 0)) hx hb hK hw 1 rfl (by decide) (by decide) rfl dX6_count_291 (fun H locs hw => ?_)
  rw [m_updz] at hw
  have hw : mH D a cs N (mA a N s.heap.size) s.heap τ4 ([(q1, .inl (cs 1, 5, .inl (fun _ => 0))), (q7, .inl (cs 1, 18, .inl (fun _ => 0)))]) H locs := hw
  refine lv_dup hx hb dX6_count_292 rfl ?_
  refine lv_bipush (v := 14) hx hb dX6_count_293 (by decide) ?_
  refine lv_aload hx hb dX6_count_295 (lv_at hl 7 rfl) ?_
  refine lv_iconst (v := 3) hx hb dX6_count_297 (by decide) ?_
  refine mx_ld (n := 5) (k := 3) (f := (fun _ => 0)) hx hb hK hw 0 rfl (by decide) (by decide) rfl dX6_count_298 ?_
  refine w_top0 (v := 0) (by subst eτ4; rfl) ?_
  refine mx_st (n := 18) (k := 14) (f := (fun _ => 0)) hx hb hK hw 1 rfl (by decide) (by decide) rfl dX6_count_299 (fun H locs hw => ?_)
  rw [m_updz] at hw
  have hw : mH D a cs N (mA a N s.heap.size) s.heap τ4 ([(q1, .inl (cs 1, 5, .inl (fun _ => 0))), (q7, .inl (cs 1, 18, .inl (fun _ => 0)))]) H locs := hw
  refine lv_dup hx hb dX6_count_300 rfl ?_
  refine lv_bipush (v := 15) hx hb dX6_count_301 (by decide) ?_
  refine lv_aload hx hb dX6_count_303 (lv_at hl 7 rfl) ?_
  refine lv_iconst (v := 4) hx hb dX6_count_305 (by decide) ?_
  refine mx_ld (n := 5) (k := 4) (f := (fun _ => 0)) hx hb hK hw 0 rfl (by decide) (by decide) rfl dX6_count_306 ?_
  refine w_top0 (v := 0) (by subst eτ4; rfl) ?_
  refine mx_st (n := 18) (k := 15) (f := (fun _ => 0)) hx hb hK hw 1 rfl (by decide) (by decide) rfl dX6_count_307 (fun H locs hw => ?_)
  rw [m_updz] at hw
  have hw : mH D a cs N (mA a N s.heap.size) s.heap τ4 ([(q1, .inl (cs 1, 5, .inl (fun _ => 0))), (q7, .inl (cs 1, 18, .inl (fun _ => 0)))]) H locs := hw
  refine lv_dup hx hb dX6_count_308 rfl ?_
  refine lv_bipush (v := 16) hx hb dX6_count_309 (by decide) ?_
  refine lv_aload_n hx hb dX6_count_311 rfl (lv_at hl 3 rfl) ?_
  refine mg_o hx hb hts iX6_count_X6 hown hK hw (by omega) 9 (by decide) (hts _ mX6_count_20) dX6_count_312 ?_
  refine w_top0 (v := 0) (by subst eτ4; exact hf.2.2.2.2.2.1 9 (by decide) (by decide)) ?_
  refine mx_st (n := 18) (k := 16) (f := (fun _ => 0)) hx hb hK hw 1 rfl (by decide) (by decide) rfl dX6_count_315 (fun H locs hw => ?_)
  rw [m_updz] at hw
  have hw : mH D a cs N (mA a N s.heap.size) s.heap τ4 ([(q1, .inl (cs 1, 5, .inl (fun _ => 0))), (q7, .inl (cs 1, 18, .inl (fun _ => 0)))]) H locs := hw
  refine lv_dup hx hb dX6_count_316 rfl ?_
  refine lv_bipush (v := 17) hx hb dX6_count_317 (by decide) ?_
  refine lv_aload_n hx hb dX6_count_319 rfl (lv_at hl 3 rfl) ?_
  refine mg_o hx hb hts iX6_count_X6 hown hK hw (by omega) 10 (by decide) (hts _ mX6_count_21) dX6_count_320 ?_
  refine w_top0 (v := 0) (by subst eτ4; exact hf.2.2.2.2.2.1 10 (by decide) (by decide)) ?_
  refine mx_st (n := 18) (k := 17) (f := (fun _ => 0)) hx hb hK hw 1 rfl (by decide) (by decide) rfl dX6_count_323 (fun H locs hw => ?_)
  rw [m_updz] at hw
  have hw : mH D a cs N (mA a N s.heap.size) s.heap τ4 ([(q1, .inl (cs 1, 5, .inl (fun _ => 0))), (q7, .inl (cs 1, 18, .inl (fun _ => 0)))]) H locs := hw
  refine lv_astore (lv' := [(7, .ref q7), (6, .int 0), (5, .int 0), (0, .ref (a 10)), (1, .int (nI w)), (2, .int 0), (3, .int 0), (4, .ref q1)]) hx hb dX6_count_324 hl (by decide) rfl (fun ls hl => ?_)
  refine lv_aload hx hb dX6_count_326 (lv_at hl 0 rfl) ?_
  refine lv_iload_n hx hb dX6_count_328 rfl (lv_at hl 4 rfl) ?_
  refine mx_ld (n := 18) (k := w) (f := (fun _ => 0)) hx hb hK hw 1 rfl (by omega) (by decide) rfl dX6_count_329 ?_
  exact me_i hx hb hr hlocks hw (by rfl) (by subst eτ4; rfl) dX6_count_330
set_option maxHeartbeats 4000000 in
set_option maxRecDepth 100000 in
theorem zX6_many_1 (l : Launch) (D : va_G) (a : Nat → Nat) (cs : Nat → ClassId) (N : Nat) (hN : 12 ≤ N) (σ : sS) (x : Int32) (hy : g_X6_isIn x 0 17 = 0) : mMi l yX6_many wsX6_many ({ frames := 4, cells := 3, slots := 27, locals := 81 }) 3 27 D a cs N [.ref (a 10), .int x] σ 0 (m_thr σ 1) := by
  intro sz
  refine Met.ofW (cc := cX6_many) (maxL := 2) (ret := (some .int)) (by decide) rfl ?_
  intro p e s m args below meth c s₁ B hml hv
  obtain ⟨rfl, hsz, hv2⟩ := hv
  have hv3 : mB D a cs N σ sz s := ⟨hsz, hv2⟩
  subst hsz
  have hw := mH_start hv3
  obtain ⟨-, -, hK, -, hN2⟩ := hv3
  have hx := B.exec
  have hb := B.bytes
  have hr := B.returns
  have hts := atoms_spec (ws := wsX6_many) B.pre
  have hown : s.vm.findClass RX6 = some m.cls := findClass_of_methodNamed B.named
  have hlocks := B.notSynchronized
  have hA : ∀ q : Nat, s.heap.size ≤ q → mA a N s.heap.size q := mA_new
  have hl := lv_entry ([.ref (a 10), .int x]) (n := 2) (Nat.le_of_ble_eq_true rfl)
  rw [lg_entry_eq]
  generalize (lg_sl ([.ref (a 10), .int x]) ++ List.replicate (2 - (lg_sl ([.ref (a 10), .int x])).length) Slot.unset).toArray = ls at hl ⊢
  have hl : lv_has ls 2 [(0, .ref (a 10)), (1, .int x)] := hl
  refine lv_aload_n hx hb dX6_many_0 rfl (lv_at hl 0 rfl) ?_
  refine lv_iload_n hx hb dX6_many_1 rfl (lv_at hl 1 rfl) ?_
  refine lv_iconst (v := 0) hx hb dX6_many_2 (by decide) ?_
  refine lv_bipush (v := 17) hx hb dX6_many_3 (by decide) ?_
  refine mc_i (mr_S (As := [.int x, .int 0, .int 17]) (rest := [.ref (a 10)]) ⟨hx, hb, hml, hown, hts⟩ (zX6_isIn l D a cs N (by omega) _ x 0 17 _) (va_cwS 3 hts gX6_many_X6_isIn rfl rfl rfl (by decide +kernel) ⟨Nat.le_of_ble_eq_true rfl, Nat.le_of_ble_eq_true rfl⟩) hK hN2 hw rfl hl.1 (Nat.le_of_ble_eq_true rfl) dX6_many_5 ⟨Nat.le_of_ble_eq_true rfl, Nat.le_of_ble_eq_true rfl⟩) hw hA (fun H locs hw => ?_)
  refine lv_if_ne (tgt := 15) hx hb dX6_many_8 (by decide) (fun c1 => absurd hy c1) (fun c1 => ?_)
  refine lv_iconst (v := 1) hx hb dX6_many_11 (by decide) ?_
  refine lv_goto (tgt := 16) hx hb dX6_many_12 (by decide) ?_
  refine lv_iconst (v := 1) hx hb dX6_many_16 (by decide) ?_
  refine mc_i (mr_V (i := 10) (As := [.int 1, .int 1]) (rest := []) ⟨hx, hb, hml, hown, hts⟩ (zX6_start1 l D a cs N (by omega) _ 1 1 (by decide) (by decide)  _) (cwV 2 hts gX6_many_X6_start rfl rfl rfl (by decide +kernel) ⟨Nat.le_of_ble_eq_true rfl, Nat.le_of_ble_eq_true rfl⟩) hK hN2 hw (by omega) mE_o kcX6 rfl hl.1 (Nat.le_of_ble_eq_true rfl) dX6_many_17 ⟨Nat.le_of_ble_eq_true rfl, Nat.le_of_ble_eq_true rfl⟩) hw hA (fun H locs hw => ?_)
  obtain ⟨τ2, eτ2⟩ : ∃ zz : sS, m_thr σ 1 = zz := ⟨_, rfl⟩
  rw [eτ2] at hw
  refine lv_if_eq (tgt := 27) hx hb dX6_many_20 (by decide) (fun c3 => absurd c3 (by decide)) (fun c3 => ?_)
  refine lv_iconst (v := 0) hx hb dX6_many_23 (by decide) ?_
  refine lv_goto (tgt := 32) hx hb dX6_many_24 (by decide) ?_
  refine W.widen (k := 3) (n := 27) (by omega) (by omega) ?_
  exact me_i hx hb hr hlocks hw (by rfl) (by subst eτ2; rfl) dX6_many_32
set_option maxHeartbeats 4000000 in
set_option maxRecDepth 100000 in
theorem zX6_many_2 (l : Launch) (D : va_G) (a : Nat → Nat) (cs : Nat → ClassId) (N : Nat) (hN : 12 ≤ N) (σ : sS) (hf : mFr σ) (w : Nat) (hw18 : w < 18) (hy : g_X6_isIn (nI w) 0 17 = 1) : mMi l yX6_many wsX6_many ({ frames := 4, cells := 3, slots := 27, locals := 81 }) 3 27 D a cs N [.ref (a 10), .int (nI w)] σ 0 (m_thr σ 0) := by
  intro sz
  refine Met.ofW (cc := cX6_many) (maxL := 2) (ret := (some .int)) (by decide) rfl ?_
  intro p e s m args below meth c s₁ B hml hv
  obtain ⟨rfl, hsz, hv2⟩ := hv
  have hv3 : mB D a cs N σ sz s := ⟨hsz, hv2⟩
  subst hsz
  have hw := mH_start hv3
  obtain ⟨-, -, hK, -, hN2⟩ := hv3
  have hx := B.exec
  have hb := B.bytes
  have hr := B.returns
  have hts := atoms_spec (ws := wsX6_many) B.pre
  have hown : s.vm.findClass RX6 = some m.cls := findClass_of_methodNamed B.named
  have hlocks := B.notSynchronized
  have hA : ∀ q : Nat, s.heap.size ≤ q → mA a N s.heap.size q := mA_new
  have hl := lv_entry ([.ref (a 10), .int (nI w)]) (n := 2) (Nat.le_of_ble_eq_true rfl)
  rw [lg_entry_eq]
  generalize (lg_sl ([.ref (a 10), .int (nI w)]) ++ List.replicate (2 - (lg_sl ([.ref (a 10), .int (nI w)])).length) Slot.unset).toArray = ls at hl ⊢
  have hl : lv_has ls 2 [(0, .ref (a 10)), (1, .int (nI w))] := hl
  refine lv_aload_n hx hb dX6_many_0 rfl (lv_at hl 0 rfl) ?_
  refine lv_iload_n hx hb dX6_many_1 rfl (lv_at hl 1 rfl) ?_
  refine lv_iconst (v := 0) hx hb dX6_many_2 (by decide) ?_
  refine lv_bipush (v := 17) hx hb dX6_many_3 (by decide) ?_
  refine mc_i (mr_S (As := [.int (nI w), .int 0, .int 17]) (rest := [.ref (a 10)]) ⟨hx, hb, hml, hown, hts⟩ (zX6_isIn l D a cs N (by omega) _ (nI w) 0 17 _) (va_cwS 3 hts gX6_many_X6_isIn rfl rfl rfl (by decide +kernel) ⟨Nat.le_of_ble_eq_true rfl, Nat.le_of_ble_eq_true rfl⟩) hK hN2 hw rfl hl.1 (Nat.le_of_ble_eq_true rfl) dX6_many_5 ⟨Nat.le_of_ble_eq_true rfl, Nat.le_of_ble_eq_true rfl⟩) hw hA (fun H locs hw => ?_)
  refine lv_if_ne (tgt := 15) hx hb dX6_many_8 (by decide) (fun c1 => ?_) (fun c1 => absurd c1 (by rw [hy]; decide))
  refine lv_iconst (v := 0) hx hb dX6_many_15 (by decide) ?_
  refine lv_iconst (v := 1) hx hb dX6_many_16 (by decide) ?_
  refine mc_i (mr_V (i := 10) (As := [.int 0, .int 1]) (rest := []) ⟨hx, hb, hml, hown, hts⟩ (zX6_start0 l D a cs N (by omega) _ 0 1 rfl  _) (cwV 2 hts gX6_many_X6_start rfl rfl rfl (by decide +kernel) ⟨Nat.le_of_ble_eq_true rfl, Nat.le_of_ble_eq_true rfl⟩) hK hN2 hw (by omega) mE_o kcX6 rfl hl.1 (Nat.le_of_ble_eq_true rfl) dX6_many_17 ⟨Nat.le_of_ble_eq_true rfl, Nat.le_of_ble_eq_true rfl⟩) hw hA (fun H locs hw => ?_)
  obtain ⟨τ2, eτ2⟩ : ∃ zz : sS, m_thr σ 0 = zz := ⟨_, rfl⟩
  rw [eτ2] at hw
  refine lv_if_eq (tgt := 27) hx hb dX6_many_20 (by decide) (fun c3 => ?_) (fun c3 => absurd (by decide) c3)
  refine lv_aload_n hx hb dX6_many_27 rfl (lv_at hl 0 rfl) ?_
  refine lv_iload_n hx hb dX6_many_28 rfl (lv_at hl 1 rfl) ?_
  refine mc_i (mr_V (i := 10) (As := [.int (nI w)]) (rest := []) ⟨hx, hb, hml, hown, hts⟩ (zX6_count l D a cs N (by omega) _ (by subst eτ2; exact mFr_thr hf) w (by omega) _) (cwV 1 hts gX6_many_X6_count rfl rfl rfl (by decide +kernel) ⟨Nat.le_of_ble_eq_true rfl, Nat.le_of_ble_eq_true rfl⟩) hK hN2 hw (by omega) mE_o kcX6 rfl hl.1 (Nat.le_of_ble_eq_true rfl) dX6_many_29 ⟨Nat.le_of_ble_eq_true rfl, Nat.le_of_ble_eq_true rfl⟩) hw hA (fun H locs hw => ?_)
  exact me_i hx hb hr hlocks hw (by rfl) (by subst eτ2; rfl) dX6_many_32
