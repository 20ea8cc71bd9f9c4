set_option maxHeartbeats 4000000 in
set_option maxRecDepth 100000 in
theorem zX6_area_1 (l : Launch) (D : va_G) (a : Nat → Nat) (cs : Nat → ClassId) (N : Nat) (hN : 12 ≤ N) (σ : sS) (p0 y : Int32) (hp : g_X6_isNoPond p0 = 1) : mMi l yX6_area wsX6_area ({ frames := 2, cells := 0, slots := 0, locals := 44 }) 0 0 D a cs N [.ref (a 10), .int p0, .int y] σ 0 (m_thr σ 1) := by
  intro sz
  refine Met.ofW (cc := cX6_area) (maxL := 4) (ret := (some .int)) (by decide) rfl ?_
  intro p e s m args below meth c s₁ B hml hv
  obtain ⟨rfl, hsz, hv2⟩ := hv
  have hv3 : mB D a cs N σ sz s := ⟨hsz, hv2⟩
  subst hsz
  have hw := mH_start hv3
  obtain ⟨-, -, hK, -, hN2⟩ := hv3
  have hx := B.exec
  have hb := B.bytes
  have hr := B.returns
  have hts := atoms_spec (ws := wsX6_area) B.pre
  have hown : s.vm.findClass RX6 = some m.cls := findClass_of_methodNamed B.named
  have hlocks := B.notSynchronized
  have hA : ∀ q : Nat, s.heap.size ≤ q → mA a N s.heap.size q := mA_new
  have hl := lv_entry ([.ref (a 10), .int p0, .int y]) (n := 4) (Nat.le_of_ble_eq_true rfl)
  rw [lg_entry_eq]
  generalize (lg_sl ([.ref (a 10), .int p0, .int y]) ++ List.replicate (4 - (lg_sl ([.ref (a 10), .int p0, .int y])).length) Slot.unset).toArray = ls at hl ⊢
  have hl : lv_has ls 4 [(0, .ref (a 10)), (1, .int p0), (2, .int y)] := hl
  refine lv_aload_n hx hb dX6_area_0 rfl (lv_at hl 0 rfl) ?_
  refine lv_iload_n hx hb dX6_area_1 rfl (lv_at hl 1 rfl) ?_
  refine mc_i (mr_S (As := [.int p0]) (rest := [.ref (a 10)]) ⟨hx, hb, hml, hown, hts⟩ (zX6_isNoPond l D a cs N (by omega) _ p0 _) (va_cwS 1 hts gX6_area_X6_isNoPond rfl rfl rfl (by decide +kernel) ⟨Nat.le_of_ble_eq_true rfl, Nat.le_of_ble_eq_true rfl⟩) hK hN2 hw rfl hl.1 (Nat.le_of_ble_eq_true rfl) dX6_area_2 ⟨Nat.le_of_ble_eq_true rfl, Nat.le_of_ble_eq_true rfl⟩) hw hA (fun H locs hw => ?_)
  refine lv_iconst (v := 1) hx hb dX6_area_5 (by decide) ?_
  refine mc_i (mr_V (i := 10) (As := [.int (g_X6_isNoPond p0), .int 1]) (rest := []) ⟨hx, hb, hml, hown, hts⟩ (zX6_start1 l D a cs N (by omega) _ (g_X6_isNoPond p0) 1 (by rw [hp]; decide) (by decide)  _) (cwV 2 hts gX6_area_X6_start rfl rfl rfl (by decide +kernel) ⟨Nat.le_of_ble_eq_true rfl, Nat.le_of_ble_eq_true rfl⟩) hK hN2 hw (by omega) mE_o kcX6 rfl hl.1 (Nat.le_of_ble_eq_true rfl) dX6_area_6 ⟨Nat.le_of_ble_eq_true rfl, Nat.le_of_ble_eq_true rfl⟩) hw hA (fun H locs hw => ?_)
  obtain ⟨τ1, eτ1⟩ : ∃ zz : sS, m_thr σ 1 = zz := ⟨_, rfl⟩
  rw [eτ1] at hw
  refine lv_if_ne (tgt := 58) hx hb dX6_area_9 (by decide) (fun c2 => ?_) (fun c2 => absurd c2 (by decide))
  refine lv_iconst (v := 0) hx hb dX6_area_58 (by decide) ?_
  exact me_i hx hb hr hlocks hw (by rfl) (by subst eτ1; rfl) dX6_area_59
set_option maxHeartbeats 4000000 in
set_option maxRecDepth 100000 in
theorem zX6_area_2 (l : Launch) (D : va_G) (a : Nat → Nat) (cs : Nat → ClassId) (N : Nat) (hN : 12 ≤ N) (σ : sS) (k : Nat) (hk : k < 8) (y : Int32) (hy : g_X6_isIn y 1 9 = 0) : mMi l yX6_area wsX6_area ({ frames := 2, cells := 0, slots := 0, locals := 44 }) 0 0 D a cs N [.ref (a 10), .int (nI k), .int y] σ 0 (m_thr σ 2) := by
  intro sz
  refine Met.ofW (cc := cX6_area) (maxL := 4) (ret := (some .int)) (by decide) rfl ?_
  intro p e s m args below meth c s₁ B hml hv
  obtain ⟨rfl, hsz, hv2⟩ := hv
  have hv3 : mB D a cs N σ sz s := ⟨hsz, hv2⟩
  subst hsz
  have hw := mH_start hv3
  obtain ⟨-, -, hK, -, hN2⟩ := hv3
  have hx := B.exec
  have hb := B.bytes
  have hr := B.returns
  have hts := atoms_spec (ws := wsX6_area) B.pre
  have hown : s.vm.findClass RX6 = some m.cls := findClass_of_methodNamed B.named
  have hlocks := B.notSynchronized
  have hA : ∀ q : Nat, s.heap.size ≤ q → mA a N s.heap.size q := mA_new
  have hl := lv_entry ([.ref (a 10), .int (nI k), .int y]) (n := 4) (Nat.le_of_ble_eq_true rfl)
  rw [lg_entry_eq]
  generalize (lg_sl ([.ref (a 10), .int (nI k), .int y]) ++ List.replicate (4 - (lg_sl ([.ref (a 10), .int (nI k), .int y])).length) Slot.unset).toArray = ls at hl ⊢
  have hl : lv_has ls 4 [(0, .ref (a 10)), (1, .int (nI k)), (2, .int y)] := hl
  refine lv_aload_n hx hb dX6_area_0 rfl (lv_at hl 0 rfl) ?_
  refine lv_iload_n hx hb dX6_area_1 rfl (lv_at hl 1 rfl) ?_
  refine mc_i (mr_S (As := [.int (nI k)]) (rest := [.ref (a 10)]) ⟨hx, hb, hml, hown, hts⟩ (zX6_isNoPond l D a cs N (by omega) _ (nI k) _) (va_cwS 1 hts gX6_area_X6_isNoPond rfl rfl rfl (by decide +kernel) ⟨Nat.le_of_ble_eq_true rfl, Nat.le_of_ble_eq_true rfl⟩) hK hN2 hw rfl hl.1 (Nat.le_of_ble_eq_true rfl) dX6_area_2 ⟨Nat.le_of_ble_eq_true rfl, Nat.le_of_ble_eq_true rfl⟩) hw hA (fun H locs hw => ?_)
  refine lv_iconst (v := 1) hx hb dX6_area_5 (by decide) ?_
  refine mc_i (mr_V (i := 10) (As := [.int (g_X6_isNoPond (nI k)), .int 1]) (rest := []) ⟨hx, hb, hml, hown, hts⟩ (zX6_start0 l D a cs N (by omega) _ (g_X6_isNoPond (nI k)) 1 (m_pond hk)  _) (cwV 2 hts gX6_area_X6_start rfl rfl rfl (by decide +kernel) ⟨Nat.le_of_ble_eq_true rfl, Nat.le_of_ble_eq_true rfl⟩) hK hN2 hw (by omega) mE_o kcX6 rfl hl.1 (Nat.le_of_ble_eq_true rfl) dX6_area_6 ⟨Nat.le_of_ble_eq_true rfl, Nat.le_of_ble_eq_true rfl⟩) hw hA (fun H locs hw => ?_)
  obtain ⟨τ1, eτ1⟩ : ∃ zz : sS, m_thr σ 0 = zz := ⟨_, rfl⟩
  rw [eτ1] at hw
  refine lv_if_ne (tgt := 58) hx hb dX6_area_9 (by decide) (fun c2 => absurd (by decide) c2) (fun c2 => ?_)
  refine lv_aload_n hx hb dX6_area_12 rfl (lv_at hl 0 rfl) ?_
  refine lv_iload_n hx hb dX6_area_13 rfl (lv_at hl 2 rfl) ?_
  refine lv_iconst (v := 1) hx hb dX6_area_14 (by decide) ?_
  refine lv_bipush (v := 9) hx hb dX6_area_15 (by decide) ?_
  refine mc_i (mr_S (As := [.int y, .int 1, .int 9]) (rest := [.ref (a 10)]) ⟨hx, hb, hml, hown, hts⟩ (zX6_isIn l D a cs N (by omega) _ y 1 9 _) (va_cwS 3 hts gX6_area_X6_isIn rfl rfl rfl (by decide +kernel) ⟨Nat.le_of_ble_eq_true rfl, Nat.le_of_ble_eq_true rfl⟩) hK hN2 hw rfl hl.1 (Nat.le_of_ble_eq_true rfl) dX6_area_17 ⟨Nat.le_of_ble_eq_true rfl, Nat.le_of_ble_eq_true rfl⟩) hw hA (fun H locs hw => ?_)
  refine lv_if_ne (tgt := 27) hx hb dX6_area_20 (by decide) (fun c3 => absurd hy c3) (fun c3 => ?_)
  refine lv_iconst (v := 1) hx hb dX6_area_23 (by decide) ?_
  refine lv_goto (tgt := 28) hx hb dX6_area_24 (by decide) ?_
  refine lv_iconst (v := 2) hx hb dX6_area_28 (by decide) ?_
  refine mc_i (mr_V (i := 10) (As := [.int 1, .int 2]) (rest := []) ⟨hx, hb, hml, hown, hts⟩ (zX6_refuse1 l D a cs N (by omega) _ 1 2 (by decide) (by decide) (by subst eτ1; rfl) _) (cwV 2 hts gX6_area_X6_refuse rfl rfl rfl (by decide +kernel) ⟨Nat.le_of_ble_eq_true rfl, Nat.le_of_ble_eq_true rfl⟩) hK hN2 hw (by omega) mE_o kcX6 rfl hl.1 (Nat.le_of_ble_eq_true rfl) dX6_area_29 ⟨Nat.le_of_ble_eq_true rfl, Nat.le_of_ble_eq_true rfl⟩) hw hA (fun H locs hw => ?_)
  obtain ⟨τ4, eτ4⟩ : ∃ zz : sS, m_thr τ1 2 = zz := ⟨_, rfl⟩
  rw [eτ4] at hw
  refine lv_if_ne (tgt := 58) hx hb dX6_area_32 (by decide) (fun c5 => ?_) (fun c5 => absurd c5 (by decide))
  refine lv_iconst (v := 0) hx hb dX6_area_58 (by decide) ?_
  exact me_i hx hb hr hlocks hw (by rfl) (by subst eτ4 eτ1; exact m_thr2 _ _ _) dX6_area_59
theorem mX6_area_0_3 : (Cond.fieldLink RX6 18 "SaltRowModel" "row" "LSaltRowModel$Row;") ∈ wsX6_area := by decide +kernel
theorem iX6_area_X6_3 : ∀ w ∈ wsX60, w ∈ wsX6_area := by decide +kernel
theorem mX6_area_2_3 : (Cond.fieldLink RX6 54 "SaltRowModel$Row" "day" "I") ∈ wsX6_area := by decide +kernel
theorem iX6_area_X5_3 : ∀ w ∈ wsX50, w ∈ wsX6_area := by decide +kernel
theorem mX6_area_4_3 : (Cond.fieldLink RX6 57 "SaltRowModel$Row" "ponds" "[LSaltRowModel$Pond;") ∈ wsX6_area := by decide +kernel
theorem mX6_area_5_3 : (Cond.fieldLink RX6 61 "SaltRowModel$Pond" "area" "I") ∈ wsX6_area := by decide +kernel
theorem iX6_area_X4_3 : ∀ w ∈ wsX40, w ∈ wsX6_area := by decide +kernel
set_option maxHeartbeats 4000000 in
set_option maxRecDepth 100000 in
theorem zX6_area_3 (l : Launch) (D : va_G) (a : Nat → Nat) (cs : Nat → ClassId) (N : Nat) (hN : 12 ≤ N) (σ : sS) (k : Nat) (hk : k < 8) (y : Int32) (hy : g_X6_isIn y 1 9 = 1) (hd : σ 0 1 ≤ 0) : mMi l yX6_area wsX6_area ({ frames := 2, cells := 0, slots := 0, locals := 44 }) 0 0 D a cs N [.ref (a 10), .int (nI k), .int y] σ (m_thr σ 0 (2 + k) 0) (va_up (m_thr σ 0) (2 + k) (upd (m_thr σ 0 (2 + k)) 0 y)) := by
  intro sz
  refine Met.ofW (cc := cX6_area) (maxL := 4) (ret := (some .int)) (by decide) rfl ?_
  intro p e s m args below meth c s₁ B hml hv
  obtain ⟨rfl, hsz, hv2⟩ := hv
  have hv3 : mB D a cs N σ sz s := ⟨hsz, hv2⟩
  subst hsz
  have hw := mH_start hv3
  obtain ⟨-, -, hK, -, hN2⟩ := hv3
  have hx := B.exec
  have hb := B.bytes
  have hr := B.returns
  have hts := atoms_spec (ws := wsX6_area) B.pre
  have hown : s.vm.findClass RX6 = some m.cls := findClass_of_methodNamed B.named
  have hlocks := B.notSynchronized
  have hA : ∀ q : Nat, s.heap.size ≤ q → mA a N s.heap.size q := mA_new
  have hl := lv_entry ([.ref (a 10), .int (nI k), .int y]) (n := 4) (Nat.le_of_ble_eq_true rfl)
  rw [lg_entry_eq]
  generalize (lg_sl ([.ref (a 10), .int (nI k), .int y]) ++ List.replicate (4 - (lg_sl ([.ref (a 10), .int (nI k), .int y])).length) Slot.unset).toArray = ls at hl ⊢
  have hl : lv_has ls 4 [(0, .ref (a 10)), (1, .int (nI k)), (2, .int y)] := hl
  refine lv_aload_n hx hb dX6_area_0 rfl (lv_at hl 0 rfl) ?_
  refine lv_iload_n hx hb dX6_area_1 rfl (lv_at hl 1 rfl) ?_
  refine mc_i (mr_S (As := [.int (nI k)]) (rest := [.ref (a 10)]) ⟨hx, hb, hml, hown, hts⟩ (zX6_isNoPond l D a cs N (by omega) _ (nI k) _) (va_cwS 1 hts gX6_area_X6_isNoPond rfl rfl rfl (by decide +kernel) ⟨Nat.le_of_ble_eq_true rfl, Nat.le_of_ble_eq_true rfl⟩) hK hN2 hw rfl hl.1 (Nat.le_of_ble_eq_true rfl) dX6_area_2 ⟨Nat.le_of_ble_eq_true rfl, Nat.le_of_ble_eq_true rfl⟩) hw hA (fun H locs hw => ?_)
  refine lv_iconst (v := 1) hx hb dX6_area_5 (by decide) ?_
  refine mc_i (mr_V (i := 10) (As := [.int (g_X6_isNoPond (nI k)), .int 1]) (rest := []) ⟨hx, hb, hml, hown, hts⟩ (zX6_start0 l D a cs N (by omega) _ (g_X6_isNoPond (nI k)) 1 (m_pond hk)  _) (cwV 2 hts gX6_area_X6_start rfl rfl rfl (by decide +kernel) ⟨Nat.le_of_ble_eq_true rfl, Nat.le_of_ble_eq_true rfl⟩) hK hN2 hw (by omega) mE_o kcX6 rfl hl.1 (Nat.le_of_ble_eq_true rfl) dX6_area_6 ⟨Nat.le_of_ble_eq_true rfl, Nat.le_of_ble_eq_true rfl⟩) hw hA (fun H locs hw => ?_)
  obtain ⟨τ1, eτ1⟩ : ∃ zz : sS, m_thr σ 0 = zz := ⟨_, rfl⟩
  rw [eτ1] at hw
  refine lv_if_ne (tgt := 58) hx hb dX6_area_9 (by decide) (fun c2 => absurd (by decide) c2) (fun c2 => ?_)
  refine lv_aload_n hx hb dX6_area_12 rfl (lv_at hl 0 rfl) ?_
  refine lv_iload_n hx hb dX6_area_13 rfl (lv_at hl 2 rfl) ?_
  refine lv_iconst (v := 1) hx hb dX6_area_14 (by decide) ?_
  refine lv_bipush (v := 9) hx hb dX6_area_15 (by decide) ?_
  refine mc_i (mr_S (As := [.int y, .int 1, .int 9]) (rest := [.ref (a 10)]) ⟨hx, hb, hml, hown, hts⟩ (zX6_isIn l D a cs N (by omega) _ y 1 9 _) (va_cwS 3 hts gX6_area_X6_isIn rfl rfl rfl (by decide +kernel) ⟨Nat.le_of_ble_eq_true rfl, Nat.le_of_ble_eq_true rfl⟩) hK hN2 hw rfl hl.1 (Nat.le_of_ble_eq_true rfl) dX6_area_17 ⟨Nat.le_of_ble_eq_true rfl, Nat.le_of_ble_eq_true rfl⟩) hw hA (fun H locs hw => ?_)
  refine lv_if_ne (tgt := 27) hx hb dX6_area_20 (by decide) (fun c3 => ?_) (fun c3 => absurd c3 (by rw [hy]; decide))
  refine lv_iconst (v := 0) hx hb dX6_area_27 (by decide) ?_
  refine lv_iconst (v := 2) hx hb dX6_area_28 (by decide) ?_
  refine mc_i (mr_V (i := 10) (As := [.int 0, .int 2]) (rest := []) ⟨hx, hb, hml, hown, hts⟩ (zX6_refuse0 l D a cs N (by omega) _ 0 2 rfl (by subst eτ1; rfl) _) (cwV 2 hts gX6_area_X6_refuse rfl rfl rfl (by decide +kernel) ⟨Nat.le_of_ble_eq_true rfl, Nat.le_of_ble_eq_true rfl⟩) hK hN2 hw (by omega) mE_o kcX6 rfl hl.1 (Nat.le_of_ble_eq_true rfl) dX6_area_29 ⟨Nat.le_of_ble_eq_true rfl, Nat.le_of_ble_eq_true rfl⟩) hw hA (fun H locs hw => ?_)
  refine lv_if_ne (tgt := 58) hx hb dX6_area_32 (by decide) (fun c4 => absurd (by decide) c4) (fun c4 => ?_)
  refine lv_aload_n hx hb dX6_area_35 rfl (lv_at hl 0 rfl) ?_
  refine lv_aload_n hx hb dX6_area_36 rfl (lv_at hl 0 rfl) ?_
  refine mg_o1 hx hb hts iX6_area_X6_3 hown hK hw (by omega) (hts _ mX6_area_0_3) dX6_area_37 ?_
  refine mg_r hx hb hts iX6_area_X5_3 hown hK hw (by omega) 1 (by decide) (hts _ mX6_area_2_3) dX6_area_40 ?_
  refine lv_if_le (tgt := 50) hx hb dX6_area_43 (by decide) (fun c5 => ?_) (fun c5 => absurd (by subst eτ1; exact hd) c5)
  refine lv_iconst (v := 0) hx hb dX6_area_50 (by decide) ?_
  refine lv_iconst (v := 3) hx hb dX6_area_51 (by decide) ?_
  refine mc_i (mr_V (i := 10) (As := [.int 0, .int 3]) (rest := []) ⟨hx, hb, hml, hown, hts⟩ (zX6_refuse0 l D a cs N (by omega) _ 0 3 rfl (by subst eτ1; rfl) _) (cwV 2 hts gX6_area_X6_refuse rfl rfl rfl (by decide +kernel) ⟨Nat.le_of_ble_eq_true rfl, Nat.le_of_ble_eq_true rfl⟩) hK hN2 hw (by omega) mE_o kcX6 rfl hl.1 (Nat.le_of_ble_eq_true rfl) dX6_area_52 ⟨Nat.le_of_ble_eq_true rfl, Nat.le_of_ble_eq_true rfl⟩) hw hA (fun H locs hw => ?_)
  refine lv_if_eq (tgt := 60) hx hb dX6_area_55 (by decide) (fun c6 => ?_) (fun c6 => absurd (by decide) c6)
  refine lv_aload_n hx hb dX6_area_60 rfl (lv_at hl 0 rfl) ?_
  refine mg_o1 hx hb hts iX6_area_X6_3 hown hK hw (by omega) (hts _ mX6_area_0_3) dX6_area_61 ?_
  refine mg_rq hx hb hts iX6_area_X5_3 hown hK hw (by omega) (hts _ mX6_area_4_3) dX6_area_64 ?_
  refine lv_iload_n hx hb dX6_area_67 rfl (lv_at hl 1 rfl) ?_
  refine mg_q (k := k) hx hb hK hw (by omega) (by omega) rfl dX6_area_68 ?_
  refine mg_p hx hb hts iX6_area_X4_3 hown hK hw (by omega) (by omega) 0 (by decide) (hts _ mX6_area_5_3) dX6_area_69 ?_
  refine lv_istore_n (lv' := [(3, .int (τ1 (2 + k) 0)), (0, .ref (a 10)), (1, .int (nI k)), (2, .int y)]) hx hb dX6_area_72 rfl hl (by decide) rfl (fun ls hl => ?_)
  refine lv_aload_n hx hb dX6_area_73 rfl (lv_at hl 1 rfl) ?_
  refine mg_o1 hx hb hts iX6_area_X6_3 hown hK hw (by omega) (hts _ mX6_area_0_3) dX6_area_74 ?_
  refine mg_rq hx hb hts iX6_area_X5_3 hown hK hw (by omega) (hts _ mX6_area_4_3) dX6_area_77 ?_
  refine lv_iload_n hx hb dX6_area_80 rfl (lv_at hl 2 rfl) ?_
  refine mg_q (k := k) hx hb hK hw (by omega) (by omega) rfl dX6_area_81 ?_
  refine lv_iload_n hx hb dX6_area_82 rfl (lv_at hl 3 rfl) ?_
  refine mp_p hx hb hts iX6_area_X4_3 hown hK hw (by omega) (by omega) 0 (by decide) (hts _ mX6_area_5_3) dX6_area_83 (fun H locs hw => ?_)
  obtain ⟨τ7, eτ7⟩ : ∃ zz : sS, va_up τ1 (2 + k) (upd (τ1 (2 + k)) 0 y) = zz := ⟨_, rfl⟩
  rw [eτ7] at hw
  refine lv_iload_n hx hb dX6_area_86 rfl (lv_at hl 0 rfl) ?_
  exact me_i hx hb hr hlocks hw (by subst eτ7 eτ1; rfl) (by subst eτ7 eτ1; rfl) dX6_area_87
set_option maxHeartbeats 4000000 in
set_option maxRecDepth 100000 in
theorem zX6_gate_1 (l : Launch) (D : va_G) (a : Nat → Nat) (cs : Nat → ClassId) (N : Nat) (hN : 12 ≤ N) (σ : sS) (p0 y : Int32) (hp : g_X6_isNoPond p0 = 1) : mMi l yX6_gate wsX6_gate ({ frames := 2, cells := 0, slots := 0, locals := 44 }) 0 0 D a cs N [.ref (a 10), .int p0, .int y] σ 0 (m_thr σ 1) := by
  intro sz
  refine Met.ofW (cc := cX6_gate) (maxL := 4) (ret := (some .boolean)) (by decide) rfl ?_
  intro p e s m args below meth c s₁ B hml hv
  obtain ⟨rfl, hsz, hv2⟩ := hv
  have hv3 : mB D a cs N σ sz s := ⟨hsz, hv2⟩
  subst hsz
  have hw := mH_start hv3
  obtain ⟨-, -, hK, -, hN2⟩ := hv3
  have hx := B.exec
  have hb := B.bytes
  have hr := B.returns
  have hts := atoms_spec (ws := wsX6_gate) B.pre
  have hown : s.vm.findClass RX6 = some m.cls := findClass_of_methodNamed B.named
  have hlocks := B.notSynchronized
  have hA : ∀ q : Nat, s.heap.size ≤ q → mA a N s.heap.size q := mA_new
  have hl := lv_entry ([.ref (a 10), .int p0, .int y]) (n := 4) (Nat.le_of_ble_eq_true rfl)
  rw [lg_entry_eq]
  generalize (lg_sl ([.ref (a 10), .int p0, .int y]) ++ List.replicate (4 - (lg_sl ([.ref (a 10), .int p0, .int y])).length) Slot.unset).toArray = ls at hl ⊢
  have hl : lv_has ls 4 [(0, .ref (a 10)), (1, .int p0), (2, .int y)] := hl
  refine lv_aload_n hx hb dX6_gate_0 rfl (lv_at hl 0 rfl) ?_
  refine lv_iload_n hx hb dX6_gate_1 rfl (lv_at hl 1 rfl) ?_
  refine mc_i (mr_S (As := [.int p0]) (rest := [.ref (a 10)]) ⟨hx, hb, hml, hown, hts⟩ (zX6_isNoPond l D a cs N (by omega) _ p0 _) (va_cwS 1 hts gX6_gate_X6_isNoPond rfl rfl rfl (by decide +kernel) ⟨Nat.le_of_ble_eq_true rfl, Nat.le_of_ble_eq_true rfl⟩) hK hN2 hw rfl hl.1 (Nat.le_of_ble_eq_true rfl) dX6_gate_2 ⟨Nat.le_of_ble_eq_true rfl, Nat.le_of_ble_eq_true rfl⟩) hw hA (fun H locs hw => ?_)
  refine lv_iconst (v := 1) hx hb dX6_gate_5 (by decide) ?_
  refine mc_i (mr_V (i := 10) (As := [.int (g_X6_isNoPond p0), .int 1]) (rest := []) ⟨hx, hb, hml, hown, hts⟩ (zX6_start1 l D a cs N (by omega) _ (g_X6_isNoPond p0) 1 (by rw [hp]; decide) (by decide)  _) (cwV 2 hts gX6_gate_X6_start rfl rfl rfl (by decide +kernel) ⟨Nat.le_of_ble_eq_true rfl, Nat.le_of_ble_eq_true rfl⟩) hK hN2 hw (by omega) mE_o kcX6 rfl hl.1 (Nat.le_of_ble_eq_true rfl) dX6_gate_6 ⟨Nat.le_of_ble_eq_true rfl, Nat.le_of_ble_eq_true rfl⟩) hw hA (fun H locs hw => ?_)
  obtain ⟨τ1, eτ1⟩ : ∃ zz : sS, m_thr σ 1 = zz := ⟨_, rfl⟩
  rw [eτ1] at hw
  refine lv_if_eq (tgt := 14) hx hb dX6_gate_9 (by decide) (fun c2 => absurd c2 (by decide)) (fun c2 => ?_)
  refine lv_iconst (v := 0) hx hb dX6_gate_12 (by decide) ?_
  exact me_z hx hb hr hlocks hw (Or.inl rfl) (by rfl) (by subst eτ1; rfl) dX6_gate_13
theorem mX6_gate_0_2 : (Cond.fieldLink RX6 18 "SaltRowModel" "row" "LSaltRowModel$Row;") ∈ wsX6_gate := by decide +kernel
theorem iX6_gate_X6_2 : ∀ w ∈ wsX60, w ∈ wsX6_gate := by decide +kernel
theorem mX6_gate_2_2 : (Cond.fieldLink RX6 57 "SaltRowModel$Row" "ponds" "[LSaltRowModel$Pond;") ∈ wsX6_gate := by decide +kernel
theorem iX6_gate_X5_2 : ∀ w ∈ wsX50, w ∈ wsX6_gate := by decide +kernel
theorem mX6_gate_4_2 : (Cond.fieldLink RX6 66 "SaltRowModel$Pond" "isOpen" "Z") ∈ wsX6_gate := by decide +kernel
theorem iX6_gate_X4_2 : ∀ w ∈ wsX40, w ∈ wsX6_gate := by decide +kernel
set_option maxHeartbeats 4000000 in
set_option maxRecDepth 100000 in
theorem zX6_gate_2 (l : Launch) (D : va_G) (a : Nat → Nat) (cs : Nat → ClassId) (N : Nat) (hN : 12 ≤ N) (σ : sS) (k : Nat) (hk : k < 8) (y : Int32) (hy : y = 0 ∨ y = 1) (hzo : σ (2 + k) 8 = 0 ∨ σ (2 + k) 8 = 1) : mMi l yX6_gate wsX6_gate ({ frames := 2, cells := 0, slots := 0, locals := 44 }) 0 0 D a cs N [.ref (a 10), .int (nI k), .int y] σ (m_thr σ 0 (2 + k) 8) (va_up (m_thr σ 0) (2 + k) (upd (m_thr σ 0 (2 + k)) 8 y)) := by
  intro sz
  refine Met.ofW (cc := cX6_gate) (maxL := 4) (ret := (some .boolean)) (by decide) rfl ?_
  intro p e s m args below meth c s₁ B hml hv
  obtain ⟨rfl, hsz, hv2⟩ := hv
  have hv3 : mB D a cs N σ sz s := ⟨hsz, hv2⟩
  subst hsz
  have hw := mH_start hv3
  obtain ⟨-, -, hK, -, hN2⟩ := hv3
  have hx := B.exec
  have hb := B.bytes
  have hr := B.returns
  have hts := atoms_spec (ws := wsX6_gate) B.pre
  have hown : s.vm.findClass RX6 = some m.cls := findClass_of_methodNamed B.named
  have hlocks := B.notSynchronized
  have hA : ∀ q : Nat, s.heap.size ≤ q → mA a N s.heap.size q := mA_new
  have hl := lv_entry ([.ref (a 10), .int (nI k), .int y]) (n := 4) (Nat.le_of_ble_eq_true rfl)
  rw [lg_entry_eq]
  generalize (lg_sl ([.ref (a 10), .int (nI k), .int y]) ++ List.replicate (4 - (lg_sl ([.ref (a 10), .int (nI k), .int y])).length) Slot.unset).toArray = ls at hl ⊢
  have hl : lv_has ls 4 [(0, .ref (a 10)), (1, .int (nI k)), (2, .int y)] := hl
  refine lv_aload_n hx hb dX6_gate_0 rfl (lv_at hl 0 rfl) ?_
  refine lv_iload_n hx hb dX6_gate_1 rfl (lv_at hl 1 rfl) ?_
  refine mc_i (mr_S (As := [.int (nI k)]) (rest := [.ref (a 10)]) ⟨hx, hb, hml, hown, hts⟩ (zX6_isNoPond l D a cs N (by omega) _ (nI k) _) (va_cwS 1 hts gX6_gate_X6_isNoPond rfl rfl rfl (by decide +kernel) ⟨Nat.le_of_ble_eq_true rfl, Nat.le_of_ble_eq_true rfl⟩) hK hN2 hw rfl hl.1 (Nat.le_of_ble_eq_true rfl) dX6_gate_2 ⟨Nat.le_of_ble_eq_true rfl, Nat.le_of_ble_eq_true rfl⟩) hw hA (fun H locs hw => ?_)
  refine lv_iconst (v := 1) hx hb dX6_gate_5 (by decide) ?_
  refine mc_i (mr_V (i := 10) (As := [.int (g_X6_isNoPond (nI k)), .int 1]) (rest := []) ⟨hx, hb, hml, hown, hts⟩ (zX6_start0 l D a cs N (by omega) _ (g_X6_isNoPond (nI k)) 1 (m_pond hk)  _) (cwV 2 hts gX6_gate_X6_start rfl rfl rfl (by decide +kernel) ⟨Nat.le_of_ble_eq_true rfl, Nat.le_of_ble_eq_true rfl⟩) hK hN2 hw (by omega) mE_o kcX6 rfl hl.1 (Nat.le_of_ble_eq_true rfl) dX6_gate_6 ⟨Nat.le_of_ble_eq_true rfl, Nat.le_of_ble_eq_true rfl⟩) hw hA (fun H locs hw => ?_)
  obtain ⟨τ1, eτ1⟩ : ∃ zz : sS, m_thr σ 0 = zz := ⟨_, rfl⟩
  rw [eτ1] at hw
  refine lv_if_eq (tgt := 14) hx hb dX6_gate_9 (by decide) (fun c2 => ?_) (fun c2 => absurd (by decide) c2)
  refine lv_aload_n hx hb dX6_gate_14 rfl (lv_at hl 0 rfl) ?_
  refine mg_o1 hx hb hts iX6_gate_X6_2 hown hK hw (by omega) (hts _ mX6_gate_0_2) dX6_gate_15 ?_
  refine mg_rq hx hb hts iX6_gate_X5_2 hown hK hw (by omega) (hts _ mX6_gate_2_2) dX6_gate_18 ?_
  refine lv_iload_n hx hb dX6_gate_21 rfl (lv_at hl 1 rfl) ?_
  refine mg_q (k := k) hx hb hK hw (by omega) (by omega) rfl dX6_gate_22 ?_
  refine mg_p hx hb hts iX6_gate_X4_2 hown hK hw (by omega) (by omega) 8 (by decide) (hts _ mX6_gate_4_2) dX6_gate_23 ?_
  refine lv_istore_n (lv' := [(3, .int (τ1 (2 + k) 8)), (0, .ref (a 10)), (1, .int (nI k)), (2, .int y)]) hx hb dX6_gate_26 rfl hl (by decide) rfl (fun ls hl => ?_)
  refine lv_aload_n hx hb dX6_gate_27 rfl (lv_at hl 1 rfl) ?_
  refine mg_o1 hx hb hts iX6_gate_X6_2 hown hK hw (by omega) (hts _ mX6_gate_0_2) dX6_gate_28 ?_
  refine mg_rq hx hb hts iX6_gate_X5_2 hown hK hw (by omega) (hts _ mX6_gate_2_2) dX6_gate_31 ?_
  refine lv_iload_n hx hb dX6_gate_34 rfl (lv_at hl 2 rfl) ?_
  refine mg_q (k := k) hx hb hK hw (by omega) (by omega) rfl dX6_gate_35 ?_
  refine lv_iload_n hx hb dX6_gate_36 rfl (lv_at hl 3 rfl) ?_
  refine mp_z hx hb hts iX6_gate_X4_2 hown hK hw (by omega) (by omega) 8 hy (by decide) (hts _ mX6_gate_4_2) dX6_gate_37 (fun H locs hw => ?_)
  obtain ⟨τ3, eτ3⟩ : ∃ zz : sS, va_up τ1 (2 + k) (upd (τ1 (2 + k)) 8 y) = zz := ⟨_, rfl⟩
  rw [eτ3] at hw
  refine lv_iload_n hx hb dX6_gate_40 rfl (lv_at hl 0 rfl) ?_
  exact me_z hx hb hr hlocks hw (by subst eτ3 eτ1; rw [m_thr_ne (by omega)]; exact hzo) (by subst eτ3 eτ1; rfl) (by subst eτ3 eτ1; rfl) dX6_gate_41
set_option maxHeartbeats 4000000 in
set_option maxRecDepth 100000 in
theorem zX6_cover_1 (l : Launch) (D : va_G) (a : Nat → Nat) (cs : Nat → ClassId) (N : Nat) (hN : 12 ≤ N) (σ : sS) (p0 y : Int32) (hp : g_X6_isNoPan p0 = 1) : mMi l yX6_cover wsX6_cover ({ frames := 2, cells := 0, slots := 0, locals := 44 }) 0 0 D a cs N [.ref (a 10), .int p0, .int y] σ 0 (m_thr σ 1) := by
  intro sz
  refine Met.ofW (cc := cX6_cover) (maxL := 4) (ret := (some .boolean)) (by decide) rfl ?_
  intro p e s m args below meth c s₁ B hml hv
  obtain ⟨rfl, hsz, hv2⟩ := hv
  have hv3 : mB D a cs N σ sz s := ⟨hsz, hv2⟩
  subst hsz
  have hw := mH_start hv3
  obtain ⟨-, -, hK, -, hN2⟩ := hv3
  have hx := B.exec
  have hb := B.bytes
  have hr := B.returns
  have hts := atoms_spec (ws := wsX6_cover) B.pre
  have hown : s.vm.findClass RX6 = some m.cls := findClass_of_methodNamed B.named
  have hlocks := B.notSynchronized
  have hA : ∀ q : Nat, s.heap.size ≤ q → mA a N s.heap.size q := mA_new
  have hl := lv_entry ([.ref (a 10), .int p0, .int y]) (n := 4) (Nat.le_of_ble_eq_true rfl)
  rw [lg_entry_eq]
  generalize (lg_sl ([.ref (a 10), .int p0, .int y]) ++ List.replicate (4 - (lg_sl ([.ref (a 10), .int p0, .int y])).length) Slot.unset).toArray = ls at hl ⊢
  have hl : lv_has ls 4 [(0, .ref (a 10)), (1, .int p0), (2, .int y)] := hl
  refine lv_aload_n hx hb dX6_cover_0 rfl (lv_at hl 0 rfl) ?_
  refine lv_iload_n hx hb dX6_cover_1 rfl (lv_at hl 1 rfl) ?_
  refine mc_i (mr_S (As := [.int p0]) (rest := [.ref (a 10)]) ⟨hx, hb, hml, hown, hts⟩ (zX6_isNoPan l D a cs N (by omega) _ p0 _) (va_cwS 1 hts gX6_cover_X6_isNoPan rfl rfl rfl (by decide +kernel) ⟨Nat.le_of_ble_eq_true rfl, Nat.le_of_ble_eq_true rfl⟩) hK hN2 hw rfl hl.1 (Nat.le_of_ble_eq_true rfl) dX6_cover_2 ⟨Nat.le_of_ble_eq_true rfl, Nat.le_of_ble_eq_true rfl⟩) hw hA (fun H locs hw => ?_)
  refine lv_iconst (v := 1) hx hb dX6_cover_5 (by decide) ?_
  refine mc_i (mr_V (i := 10) (As := [.int (g_X6_isNoPan p0), .int 1]) (rest := []) ⟨hx, hb, hml, hown, hts⟩ (zX6_start1 l D a cs N (by omega) _ (g_X6_isNoPan p0) 1 (by rw [hp]; decide) (by decide)  _) (cwV 2 hts gX6_cover_X6_start rfl rfl rfl (by decide +kernel) ⟨Nat.le_of_ble_eq_true rfl, Nat.le_of_ble_eq_true rfl⟩) hK hN2 hw (by omega) mE_o kcX6 rfl hl.1 (Nat.le_of_ble_eq_true rfl) dX6_cover_6 ⟨Nat.le_of_ble_eq_true rfl, Nat.le_of_ble_eq_true rfl⟩) hw hA (fun H locs hw => ?_)
  obtain ⟨τ1, eτ1⟩ : ∃ zz : sS, m_thr σ 1 = zz := ⟨_, rfl⟩
  rw [eτ1] at hw
  refine lv_if_eq (tgt := 14) hx hb dX6_cover_9 (by decide) (fun c2 => absurd c2 (by decide)) (fun c2 => ?_)
  refine lv_iconst (v := 0) hx hb dX6_cover_12 (by decide) ?_
  exact me_z hx hb hr hlocks hw (Or.inl rfl) (by rfl) (by subst eτ1; rfl) dX6_cover_13
theorem mX6_cover_0_2 : (Cond.fieldLink RX6 18 "SaltRowModel" "row" "LSaltRowModel$Row;") ∈ wsX6_cover := by decide +kernel
theorem iX6_cover_X6_2 : ∀ w ∈ wsX60, w ∈ wsX6_cover := by decide +kernel
theorem mX6_cover_2_2 : (Cond.fieldLink RX6 57 "SaltRowModel$Row" "ponds" "[LSaltRowModel$Pond;") ∈ wsX6_cover := by decide +kernel
theorem iX6_cover_X5_2 : ∀ w ∈ wsX50, w ∈ wsX6_cover := by decide +kernel
theorem mX6_cover_4_2 : (Cond.fieldLink RX6 73 "SaltRowModel$Pond" "isCovered" "Z") ∈ wsX6_cover := by decide +kernel
theorem iX6_cover_X4_2 : ∀ w ∈ wsX40, w ∈ wsX6_cover := by decide +kernel
set_option maxHeartbeats 4000000 in
set_option maxRecDepth 100000 in
theorem zX6_cover_2 (l : Launch) (D : va_G) (a : Nat → Nat) (cs : Nat → ClassId) (N : Nat) (hN : 12 ≤ N) (σ : sS) (q : Nat) (hq : q < 3) (y : Int32) (hy : y = 0 ∨ y = 1) (hzo : σ (2 + (5 + q)) 9 = 0 ∨ σ (2 + (5 + q)) 9 = 1) : mMi l yX6_cover wsX6_cover ({ frames := 2, cells := 0, slots := 0, locals := 44 }) 0 0 D a cs N [.ref (a 10), .int (nI (5 + q)), .int y] σ (m_thr σ 0 (2 + (5 + q)) 9) (va_up (m_thr σ 0) (2 + (5 + q)) (upd (m_thr σ 0 (2 + (5 + q))) 9 y)) := by
  intro sz
  refine Met.ofW (cc := cX6_cover) (maxL := 4) (ret := (some .boolean)) (by decide) rfl ?_
  intro p e s m args below meth c s₁ B hml hv
  obtain ⟨rfl, hsz, hv2⟩ := hv
  have hv3 : mB D a cs N σ sz s := ⟨hsz, hv2⟩
  subst hsz
  have hw := mH_start hv3
  obtain ⟨-, -, hK, -, hN2⟩ := hv3
  have hx := B.exec
  have hb := B.bytes
  have hr := B.returns
  have hts := atoms_spec (ws := wsX6_cover) B.pre
  have hown : s.vm.findClass RX6 = some m.cls := findClass_of_methodNamed B.named
  have hlocks := B.notSynchronized
  have hA : ∀ q : Nat, s.heap.size ≤ q → mA a N s.heap.size q := mA_new
  have hl := lv_entry ([.ref (a 10), .int (nI (5 + q)), .int y]) (n := 4) (Nat.le_of_ble_eq_true rfl)
  rw [lg_entry_eq]
  generalize (lg_sl ([.ref (a 10), .int (nI (5 + q)), .int y]) ++ List.replicate (4 - (lg_sl ([.ref (a 10), .int (nI (5 + q)), .int y])).length) Slot.unset).toArray = ls at hl ⊢
  have hl : lv_has ls 4 [(0, .ref (a 10)), (1, .int (nI (5 + q))), (2, .int y)] := hl
  refine lv_aload_n hx hb dX6_cover_0 rfl (lv_at hl 0 rfl) ?_
  refine lv_iload_n hx hb dX6_cover_1 rfl (lv_at hl 1 rfl) ?_
  refine mc_i (mr_S (As := [.int (nI (5 + q))]) (rest := [.ref (a 10)]) ⟨hx, hb, hml, hown, hts⟩ (zX6_isNoPan l D a cs N (by omega) _ (nI (5 + q)) _) (va_cwS 1 hts gX6_cover_X6_isNoPan rfl rfl rfl (by decide +kernel) ⟨Nat.le_of_ble_eq_true rfl, Nat.le_of_ble_eq_true rfl⟩) hK hN2 hw rfl hl.1 (Nat.le_of_ble_eq_true rfl) dX6_cover_2 ⟨Nat.le_of_ble_eq_true rfl, Nat.le_of_ble_eq_true rfl⟩) hw hA (fun H locs hw => ?_)
  refine lv_iconst (v := 1) hx hb dX6_cover_5 (by decide) ?_
  refine mc_i (mr_V (i := 10) (As := [.int (g_X6_isNoPan (nI (5 + q))), .int 1]) (rest := []) ⟨hx, hb, hml, hown, hts⟩ (zX6_start0 l D a cs N (by omega) _ (g_X6_isNoPan (nI (5 + q))) 1 (m_pan hq)  _) (cwV 2 hts gX6_cover_X6_start rfl rfl rfl (by decide +kernel) ⟨Nat.le_of_ble_eq_true rfl, Nat.le_of_ble_eq_true rfl⟩) hK hN2 hw (by omega) mE_o kcX6 rfl hl.1 (Nat.le_of_ble_eq_true rfl) dX6_cover_6 ⟨Nat.le_of_ble_eq_true rfl, Nat.le_of_ble_eq_true rfl⟩) hw hA (fun H locs hw => ?_)
  obtain ⟨τ1, eτ1⟩ : ∃ zz : sS, m_thr σ 0 = zz := ⟨_, rfl⟩
  rw [eτ1] at hw
  refine lv_if_eq (tgt := 14) hx hb dX6_cover_9 (by decide) (fun c2 => ?_) (fun c2 => absurd (by decide) c2)
  refine lv_aload_n hx hb dX6_cover_14 rfl (lv_at hl 0 rfl) ?_
  refine mg_o1 hx hb hts iX6_cover_X6_2 hown hK hw (by omega) (hts _ mX6_cover_0_2) dX6_cover_15 ?_
  refine mg_rq hx hb hts iX6_cover_X5_2 hown hK hw (by omega) (hts _ mX6_cover_2_2) dX6_cover_18 ?_
  refine lv_iload_n hx hb dX6_cover_21 rfl (lv_at hl 1 rfl) ?_
  refine mg_q (k := (5 + q)) hx hb hK hw (by omega) (by omega) rfl dX6_cover_22 ?_
  refine mg_p hx hb hts iX6_cover_X4_2 hown hK hw (by omega) (by omega) 9 (by decide) (hts _ mX6_cover_4_2) dX6_cover_23 ?_
  refine lv_istore_n (lv' := [(3, .int (τ1 (2 + (5 + q)) 9)), (0, .ref (a 10)), (1, .int (nI (5 + q))), (2, .int y)]) hx hb dX6_cover_26 rfl hl (by decide) rfl (fun ls hl => ?_)
  refine lv_aload_n hx hb dX6_cover_27 rfl (lv_at hl 1 rfl) ?_
  refine mg_o1 hx hb hts iX6_cover_X6_2 hown hK hw (by omega) (hts _ mX6_cover_0_2) dX6_cover_28 ?_
  refine mg_rq hx hb hts iX6_cover_X5_2 hown hK hw (by omega) (hts _ mX6_cover_2_2) dX6_cover_31 ?_
  refine lv_iload_n hx hb dX6_cover_34 rfl (lv_at hl 2 rfl) ?_
  refine mg_q (k := (5 + q)) hx hb hK hw (by omega) (by omega) rfl dX6_cover_35 ?_
  refine lv_iload_n hx hb dX6_cover_36 rfl (lv_at hl 3 rfl) ?_
  refine mp_z hx hb hts iX6_cover_X4_2 hown hK hw (by omega) (by omega) 9 hy (by decide) (hts _ mX6_cover_4_2) dX6_cover_37 (fun H locs hw => ?_)
  obtain ⟨τ3, eτ3⟩ : ∃ zz : sS, va_up τ1 (2 + (5 + q)) (upd (τ1 (2 + (5 + q))) 9 y) = zz := ⟨_, rfl⟩
  rw [eτ3] at hw
  refine lv_iload_n hx hb dX6_cover_40 rfl (lv_at hl 0 rfl) ?_
  exact me_z hx hb hr hlocks hw (by subst eτ3 eτ1; rw [m_thr_ne (by omega)]; exact hzo) (by subst eτ3 eτ1; rfl) (by subst eτ3 eτ1; rfl) dX6_cover_41
set_option maxHeartbeats 4000000 in
set_option maxRecDepth 100000 in
theorem zX6_pass_1 (l : Launch) (D : va_G) (a : Nat → Nat) (cs : Nat → ClassId) (N : Nat) (hN : 12 ≤ N) (σ : sS) (n x y z : Int32) (h0 : g_X6_isIn n 1 30 = 0) : mMi l yX6_pass wsX6_pass ({ frames := 4, cells := 0, slots := 0, locals := 99 }) 0 0 D a cs N [.ref (a 10), .int n, .int x, .int y, .int z] σ 0 (m_thr σ 1) := by
  intro sz
  refine Met.ofW (cc := cX6_pass) (maxL := 9) (ret := (some .int)) (by decide) rfl ?_
  intro p e s m args below meth c s₁ B hml hv
  obtain ⟨rfl, hsz, hv2⟩ := hv
  have hv3 : mB D a cs N σ sz s := ⟨hsz, hv2⟩
  subst hsz
  have hw := mH_start hv3
  obtain ⟨-, -, hK, -, hN2⟩ := hv3
  have hx := B.exec
  have hb := B.bytes
  have hr := B.returns
  have hts := atoms_spec (ws := wsX6_pass) B.pre
  have hown : s.vm.findClass RX6 = some m.cls := findClass_of_methodNamed B.named
  have hlocks := B.notSynchronized
  have hA : ∀ q : Nat, s.heap.size ≤ q → mA a N s.heap.size q := mA_new
  have hl := lv_entry ([.ref (a 10), .int n, .int x, .int y, .int z]) (n := 9) (Nat.le_of_ble_eq_true rfl)
  rw [lg_entry_eq]
  generalize (lg_sl ([.ref (a 10), .int n, .int x, .int y, .int z]) ++ List.replicate (9 - (lg_sl ([.ref (a 10), .int n, .int x, .int y, .int z])).length) Slot.unset).toArray = ls at hl ⊢
  have hl : lv_has ls 9 [(0, .ref (a 10)), (1, .int n), (2, .int x), (3, .int y), (4, .int z)] := hl
  refine lv_aload_n hx hb dX6_pass_0 rfl (lv_at hl 0 rfl) ?_
  refine lv_iload_n hx hb dX6_pass_1 rfl (lv_at hl 1 rfl) ?_
  refine lv_iconst (v := 1) hx hb dX6_pass_2 (by decide) ?_
  refine lv_bipush (v := 30) hx hb dX6_pass_3 (by decide) ?_
  refine mc_i (mr_S (As := [.int n, .int 1, .int 30]) (rest := [.ref (a 10)]) ⟨hx, hb, hml, hown, hts⟩ (zX6_isIn l D a cs N (by omega) _ n 1 30 _) (va_cwS 3 hts gX6_pass_X6_isIn rfl rfl rfl (by decide +kernel) ⟨Nat.le_of_ble_eq_true rfl, Nat.le_of_ble_eq_true rfl⟩) hK hN2 hw rfl hl.1 (Nat.le_of_ble_eq_true rfl) dX6_pass_5 ⟨Nat.le_of_ble_eq_true rfl, Nat.le_of_ble_eq_true rfl⟩) hw hA (fun H locs hw => ?_)
  refine lv_if_eq (tgt := 42) hx hb dX6_pass_8 (by decide) (fun c1 => ?_) (fun c1 => absurd h0 c1)
  refine lv_iconst (v := 1) hx hb dX6_pass_42 (by decide) ?_
  refine lv_goto (tgt := 47) hx hb dX6_pass_43 (by decide) ?_
  refine lv_iconst (v := 1) hx hb dX6_pass_47 (by decide) ?_
  refine mc_i (mr_V (i := 10) (As := [.int 1, .int 1]) (rest := []) ⟨hx, hb, hml, hown, hts⟩ (zX6_start1 l D a cs N (by omega) _ 1 1 (by decide) (by decide)  _) (cwV 2 hts gX6_pass_X6_start rfl rfl rfl (by decide +kernel) ⟨Nat.le_of_ble_eq_true rfl, Nat.le_of_ble_eq_true rfl⟩) hK hN2 hw (by omega) mE_o kcX6 rfl hl.1 (Nat.le_of_ble_eq_true rfl) dX6_pass_48 ⟨Nat.le_of_ble_eq_true rfl, Nat.le_of_ble_eq_true rfl⟩) hw hA (fun H locs hw => ?_)
  obtain ⟨τ2, eτ2⟩ : ∃ zz : sS, m_thr σ 1 = zz := ⟨_, rfl⟩
  rw [eτ2] at hw
  refine lv_if_ne (tgt := 82) hx hb dX6_pass_51 (by decide) (fun c3 => ?_) (fun c3 => absurd c3 (by decide))
  refine lv_iconst (v := 0) hx hb dX6_pass_82 (by decide) ?_
  exact me_i hx hb hr hlocks hw (by rfl) (by subst eτ2; rfl) dX6_pass_83
set_option maxHeartbeats 4000000 in
set_option maxRecDepth 100000 in
theorem zX6_pass_2 (l : Launch) (D : va_G) (a : Nat → Nat) (cs : Nat → ClassId) (N : Nat) (hN : 12 ≤ N) (σ : sS) (n x y z : Int32) (h0 : g_X6_isIn n 1 30 = 1) (h1 : g_X6_isIn x 0 9 = 0) : mMi l yX6_pass wsX6_pass ({ frames := 4, cells := 0, slots := 0, locals := 99 }) 0 0 D a cs N [.ref (a 10), .int n, .int x, .int y, .int z] σ 0 (m_thr σ 1) := by
  intro sz
  refine Met.ofW (cc := cX6_pass) (maxL := 9) (ret := (some .int)) (by decide) rfl ?_
  intro p e s m args below meth c s₁ B hml hv
  obtain ⟨rfl, hsz, hv2⟩ := hv
  have hv3 : mB D a cs N σ sz s := ⟨hsz, hv2⟩
  subst hsz
  have hw := mH_start hv3
  obtain ⟨-, -, hK, -, hN2⟩ := hv3
  have hx := B.exec
  have hb := B.bytes
  have hr := B.returns
  have hts := atoms_spec (ws := wsX6_pass) B.pre
  have hown : s.vm.findClass RX6 = some m.cls := findClass_of_methodNamed B.named
  have hlocks := B.notSynchronized
  have hA : ∀ q : Nat, s.heap.size ≤ q → mA a N s.heap.size q := mA_new
  have hl := lv_entry ([.ref (a 10), .int n, .int x, .int y, .int z]) (n := 9) (Nat.le_of_ble_eq_true rfl)
  rw [lg_entry_eq]
  generalize (lg_sl ([.ref (a 10), .int n, .int x, .int y, .int z]) ++ List.replicate (9 - (lg_sl ([.ref (a 10), .int n, .int x, .int y, .int z])).length) Slot.unset).toArray = ls at hl ⊢
  have hl : lv_has ls 9 [(0, .ref (a 10)), (1, .int n), (2, .int x), (3, .int y), (4, .int z)] := hl
  refine lv_aload_n hx hb dX6_pass_0 rfl (lv_at hl 0 rfl) ?_
  refine lv_iload_n hx hb dX6_pass_1 rfl (lv_at hl 1 rfl) ?_
  refine lv_iconst (v := 1) hx hb dX6_pass_2 (by decide) ?_
  refine lv_bipush (v := 30) hx hb dX6_pass_3 (by decide) ?_
  refine mc_i (mr_S (As := [.int n, .int 1, .int 30]) (rest := [.ref (a 10)]) ⟨hx, hb, hml, hown, hts⟩ (zX6_isIn l D a cs N (by omega) _ n 1 30 _) (va_cwS 3 hts gX6_pass_X6_isIn rfl rfl rfl (by decide +kernel) ⟨Nat.le_of_ble_eq_true rfl, Nat.le_of_ble_eq_true rfl⟩) hK hN2 hw rfl hl.1 (Nat.le_of_ble_eq_true rfl) dX6_pass_5 ⟨Nat.le_of_ble_eq_true rfl, Nat.le_of_ble_eq_true rfl⟩) hw hA (fun H locs hw => ?_)
  refine lv_if_eq (tgt := 42) hx hb dX6_pass_8 (by decide) (fun c1 => absurd c1 (by rw [h0]; decide)) (fun c1 => ?_)
  refine lv_iload_n hx hb dX6_pass_11 rfl (lv_at hl 2 rfl) ?_
  refine lv_iconst (v := 0) hx hb dX6_pass_12 (by decide) ?_
  refine lv_bipush (v := 9) hx hb dX6_pass_13 (by decide) ?_
  refine mc_i (mr_S (As := [.int x, .int 0, .int 9]) (rest := [.ref (a 10)]) ⟨hx, hb, hml, hown, hts⟩ (zX6_isIn l D a cs N (by omega) _ x 0 9 _) (va_cwS 3 hts gX6_pass_X6_isIn rfl rfl rfl (by decide +kernel) ⟨Nat.le_of_ble_eq_true rfl, Nat.le_of_ble_eq_true rfl⟩) hK hN2 hw rfl hl.1 (Nat.le_of_ble_eq_true rfl) dX6_pass_15 ⟨Nat.le_of_ble_eq_true rfl, Nat.le_of_ble_eq_true rfl⟩) hw hA (fun H locs hw => ?_)
  refine lv_if_eq (tgt := 42) hx hb dX6_pass_18 (by decide) (fun c2 => ?_) (fun c2 => absurd h1 c2)
  refine lv_iconst (v := 1) hx hb dX6_pass_42 (by decide) ?_
  refine lv_goto (tgt := 47) hx hb dX6_pass_43 (by decide) ?_
  refine lv_iconst (v := 1) hx hb dX6_pass_47 (by decide) ?_
  refine mc_i (mr_V (i := 10) (As := [.int 1, .int 1]) (rest := []) ⟨hx, hb, hml, hown, hts⟩ (zX6_start1 l D a cs N (by omega) _ 1 1 (by decide) (by decide)  _) (cwV 2 hts gX6_pass_X6_start rfl rfl rfl (by decide +kernel) ⟨Nat.le_of_ble_eq_true rfl, Nat.le_of_ble_eq_true rfl⟩) hK hN2 hw (by omega) mE_o kcX6 rfl hl.1 (Nat.le_of_ble_eq_true rfl) dX6_pass_48 ⟨Nat.le_of_ble_eq_true rfl, Nat.le_of_ble_eq_true rfl⟩) hw hA (fun H locs hw => ?_)
  obtain ⟨τ3, eτ3⟩ : ∃ zz : sS, m_thr σ 1 = zz := ⟨_, rfl⟩
  rw [eτ3] at hw
  refine lv_if_ne (tgt := 82) hx hb dX6_pass_51 (by decide) (fun c4 => ?_) (fun c4 => absurd c4 (by decide))
  refine lv_iconst (v := 0) hx hb dX6_pass_82 (by decide) ?_
  exact me_i hx hb hr hlocks hw (by rfl) (by subst eτ3; rfl) dX6_pass_83
set_option maxHeartbeats 4000000 in
set_option maxRecDepth 100000 in
theorem zX6_pass_3 (l : Launch) (D : va_G) (a : Nat → Nat) (cs : Nat → ClassId) (N : Nat) (hN : 12 ≤ N) (σ : sS) (n x y z : Int32) (h0 : g_X6_isIn n 1 30 = 1) (h1 : g_X6_isIn x 0 9 = 1) (h2 : g_X6_isIn y 0 9 = 0) : mMi l yX6_pass wsX6_pass ({ frames := 4, cells := 0, slots := 0, locals := 99 }) 0 0 D a cs N [.ref (a 10), .int n, .int x, .int y, .int z] σ 0 (m_thr σ 1) := by
  intro sz
  refine Met.ofW (cc := cX6_pass) (maxL := 9) (ret := (some .int)) (by decide) rfl ?_
  intro p e s m args below meth c s₁ B hml hv
  obtain ⟨rfl, hsz, hv2⟩ := hv
  have hv3 : mB D a cs N σ sz s := ⟨hsz, hv2⟩
  subst hsz
  have hw := mH_start hv3
  obtain ⟨-, -, hK, -, hN2⟩ := hv3
  have hx := B.exec
  have hb := B.bytes
  have hr := B.returns
  have hts := atoms_spec (ws := wsX6_pass) B.pre
  have hown : s.vm.findClass RX6 = some m.cls := findClass_of_methodNamed B.named
  have hlocks := B.notSynchronized
  have hA : ∀ q : Nat, s.heap.size ≤ q → mA a N s.heap.size q := mA_new
  have hl := lv_entry ([.ref (a 10), .int n, .int x, .int y, .int z]) (n := 9) (Nat.le_of_ble_eq_true rfl)
  rw [lg_entry_eq]
  generalize (lg_sl ([.ref (a 10), .int n, .int x, .int y, .int z]) ++ List.replicate (9 - (lg_sl ([.ref (a 10), .int n, .int x, .int y, .int z])).length) Slot.unset).toArray = ls at hl ⊢
  have hl : lv_has ls 9 [(0, .ref (a 10)), (1, .int n), (2, .int x), (3, .int y), (4, .int z)] := hl
  refine lv_aload_n hx hb dX6_pass_0 rfl (lv_at hl 0 rfl) ?_
  refine lv_iload_n hx hb dX6_pass_1 rfl (lv_at hl 1 rfl) ?_
  refine lv_iconst (v := 1) hx hb dX6_pass_2 (by decide) ?_
  refine lv_bipush (v := 30) hx hb dX6_pass_3 (by decide) ?_
  refine mc_i (mr_S (As := [.int n, .int 1, .int 30]) (rest := [.ref (a 10)]) ⟨hx, hb, hml, hown, hts⟩ (zX6_isIn l D a cs N (by omega) _ n 1 30 _) (va_cwS 3 hts gX6_pass_X6_isIn rfl rfl rfl (by decide +kernel) ⟨Nat.le_of_ble_eq_true rfl, Nat.le_of_ble_eq_true rfl⟩) hK hN2 hw rfl hl.1 (Nat.le_of_ble_eq_true rfl) dX6_pass_5 ⟨Nat.le_of_ble_eq_true rfl, Nat.le_of_ble_eq_true rfl⟩) hw hA (fun H locs hw => ?_)
  refine lv_if_eq (tgt := 42) hx hb dX6_pass_8 (by decide) (fun c1 => absurd c1 (by rw [h0]; decide)) (fun c1 => ?_)
  refine lv_iload_n hx hb dX6_pass_11 rfl (lv_at hl 2 rfl) ?_
  refine lv_iconst (v := 0) hx hb dX6_pass_12 (by decide) ?_
  refine lv_bipush (v := 9) hx hb dX6_pass_13 (by decide) ?_
  refine mc_i (mr_S (As := [.int x, .int 0, .int 9]) (rest := [.ref (a 10)]) ⟨hx, hb, hml, hown, hts⟩ (zX6_isIn l D a cs N (by omega) _ x 0 9 _) (va_cwS 3 hts gX6_pass_X6_isIn rfl rfl rfl (by decide +kernel) ⟨Nat.le_of_ble_eq_true rfl, Nat.le_of_ble_eq_true rfl⟩) hK hN2 hw rfl hl.1 (Nat.le_of_ble_eq_true rfl) dX6_pass_15 ⟨Nat.le_of_ble_eq_true rfl, Nat.le_of_ble_eq_true rfl⟩) hw hA (fun H locs hw => ?_)
  refine lv_if_eq (tgt := 42) hx hb dX6_pass_18 (by decide) (fun c2 => absurd c2 (by rw [h1]; decide)) (fun c2 => ?_)
  refine lv_iload_n hx hb dX6_pass_21 rfl (lv_at hl 3 rfl) ?_
  refine lv_iconst (v := 0) hx hb dX6_pass_22 (by decide) ?_
  refine lv_bipush (v := 9) hx hb dX6_pass_23 (by decide) ?_
  refine mc_i (mr_S (As := [.int y, .int 0, .int 9]) (rest := [.ref (a 10)]) ⟨hx, hb, hml, hown, hts⟩ (zX6_isIn l D a cs N (by omega) _ y 0 9 _) (va_cwS 3 hts gX6_pass_X6_isIn rfl rfl rfl (by decide +kernel) ⟨Nat.le_of_ble_eq_true rfl, Nat.le_of_ble_eq_true rfl⟩) hK hN2 hw rfl hl.1 (Nat.le_of_ble_eq_true rfl) dX6_pass_25 ⟨Nat.le_of_ble_eq_true rfl, Nat.le_of_ble_eq_true rfl⟩) hw hA (fun H locs hw => ?_)
  refine lv_if_eq (tgt := 42) hx hb dX6_pass_28 (by decide) (fun c3 => ?_) (fun c3 => absurd h2 c3)
  refine lv_iconst (v := 1) hx hb dX6_pass_42 (by decide) ?_
  refine lv_goto (tgt := 47) hx hb dX6_pass_43 (by decide) ?_
  refine lv_iconst (v := 1) hx hb dX6_pass_47 (by decide) ?_
  refine mc_i (mr_V (i := 10) (As := [.int 1, .int 1]) (rest := []) ⟨hx, hb, hml, hown, hts⟩ (zX6_start1 l D a cs N (by omega) _ 1 1 (by decide) (by decide)  _) (cwV 2 hts gX6_pass_X6_start rfl rfl rfl (by decide +kernel) ⟨Nat.le_of_ble_eq_true rfl, Nat.le_of_ble_eq_true rfl⟩) hK hN2 hw (by omega) mE_o kcX6 rfl hl.1 (Nat.le_of_ble_eq_true rfl) dX6_pass_48 ⟨Nat.le_of_ble_eq_true rfl, Nat.le_of_ble_eq_true rfl⟩) hw hA (fun H locs hw => ?_)
  obtain ⟨τ4, eτ4⟩ : ∃ zz : sS, m_thr σ 1 = zz := ⟨_, rfl⟩
  rw [eτ4] at hw
  refine lv_if_ne (tgt := 82) hx hb dX6_pass_51 (by decide) (fun c5 => ?_) (fun c5 => absurd c5 (by decide))
  refine lv_iconst (v := 0) hx hb dX6_pass_82 (by decide) ?_
  exact me_i hx hb hr hlocks hw (by rfl) (by subst eτ4; rfl) dX6_pass_83
set_option maxHeartbeats 4000000 in
set_option maxRecDepth 100000 in
theorem zX6_pass_4 (l : Launch) (D : va_G) (a : Nat → Nat) (cs : Nat → ClassId) (N : Nat) (hN : 12 ≤ N) (σ : sS) (n x y z : Int32) (h0 : g_X6_isIn n 1 30 = 1) (h1 : g_X6_isIn x 0 9 = 1) (h2 : g_X6_isIn y 0 9 = 1) (h3 : g_X6_isIn z 0 40 = 0) : mMi l yX6_pass wsX6_pass ({ frames := 4, cells := 0, slots := 0, locals := 99 }) 0 0 D a cs N [.ref (a 10), .int n, .int x, .int y, .int z] σ 0 (m_thr σ 1) := by
  intro sz
  refine Met.ofW (cc := cX6_pass) (maxL := 9) (ret := (some .int)) (by decide) rfl ?_
  intro p e s m args below meth c s₁ B hml hv
  obtain ⟨rfl, hsz, hv2⟩ := hv
  have hv3 : mB D a cs N σ sz s := ⟨hsz, hv2⟩
  subst hsz
  have hw := mH_start hv3
  obtain ⟨-, -, hK, -, hN2⟩ := hv3
  have hx := B.exec
  have hb := B.bytes
  have hr := B.returns
  have hts := atoms_spec (ws := wsX6_pass) B.pre
  have hown : s.vm.findClass RX6 = some m.cls := findClass_of_methodNamed B.named
  have hlocks := B.notSynchronized
  have hA : ∀ q : Nat, s.heap.size ≤ q → mA a N s.heap.size q := mA_new
  have hl := lv_entry ([.ref (a 10), .int n, .int x, .int y, .int z]) (n := 9) (Nat.le_of_ble_eq_true rfl)
  rw [lg_entry_eq]
  generalize (lg_sl ([.ref (a 10), .int n, .int x, .int y, .int z]) ++ List.replicate (9 - (lg_sl ([.ref (a 10), .int n, .int x, .int y, .int z])).length) Slot.unset).toArray = ls at hl ⊢
  have hl : lv_has ls 9 [(0, .ref (a 10)), (1, .int n), (2, .int x), (3, .int y), (4, .int z)] := hl
  refine lv_aload_n hx hb dX6_pass_0 rfl (lv_at hl 0 rfl) ?_
  refine lv_iload_n hx hb dX6_pass_1 rfl (lv_at hl 1 rfl) ?_
  refine lv_iconst (v := 1) hx hb dX6_pass_2 (by decide) ?_
  refine lv_bipush (v := 30) hx hb dX6_pass_3 (by decide) ?_
  refine mc_i (mr_S (As := [.int n, .int 1, .int 30]) (rest := [.ref (a 10)]) ⟨hx, hb, hml, hown, hts⟩ (zX6_isIn l D a cs N (by omega) _ n 1 30 _) (va_cwS 3 hts gX6_pass_X6_isIn rfl rfl rfl (by decide +kernel) ⟨Nat.le_of_ble_eq_true rfl, Nat.le_of_ble_eq_true rfl⟩) hK hN2 hw rfl hl.1 (Nat.le_of_ble_eq_true rfl) dX6_pass_5 ⟨Nat.le_of_ble_eq_true rfl, Nat.le_of_ble_eq_true rfl⟩) hw hA (fun H locs hw => ?_)
  refine lv_if_eq (tgt := 42) hx hb dX6_pass_8 (by decide) (fun c1 => absurd c1 (by rw [h0]; decide)) (fun c1 => ?_)
  refine lv_iload_n hx hb dX6_pass_11 rfl (lv_at hl 2 rfl) ?_
  refine lv_iconst (v := 0) hx hb dX6_pass_12 (by decide) ?_
  refine lv_bipush (v := 9) hx hb dX6_pass_13 (by decide) ?_
  refine mc_i (mr_S (As := [.int x, .int 0, .int 9]) (rest := [.ref (a 10)]) ⟨hx, hb, hml, hown, hts⟩ (zX6_isIn l D a cs N (by omega) _ x 0 9 _) (va_cwS 3 hts gX6_pass_X6_isIn rfl rfl rfl (by decide +kernel) ⟨Nat.le_of_ble_eq_true rfl, Nat.le_of_ble_eq_true rfl⟩) hK hN2 hw rfl hl.1 (Nat.le_of_ble_eq_true rfl) dX6_pass_15 ⟨Nat.le_of_ble_eq_true rfl, Nat.le_of_ble_eq_true rfl⟩) hw hA (fun H locs hw => ?_)
  refine lv_if_eq (tgt := 42) hx hb dX6_pass_18 (by decide) (fun c2 => absurd c2 (by rw [h1]; decide)) (fun c2 => ?_)
  refine lv_iload_n hx hb dX6_pass_21 rfl (lv_at hl 3 rfl) ?_
  refine lv_iconst (v := 0) hx hb dX6_pass_22 (by decide) ?_
  refine lv_bipush (v := 9) hx hb dX6_pass_23 (by decide) ?_
  refine mc_i (mr_S (As := [.int y, .int 0, .int 9]) (rest := [.ref (a 10)]) ⟨hx, hb, hml, hown, hts⟩ (zX6_isIn l D a cs N (by omega) _ y 0 9 _) (va_cwS 3 hts gX6_pass_X6_isIn rfl rfl rfl (by decide +kernel) ⟨Nat.le_of_ble_eq_true rfl, Nat.le_of_ble_eq_true rfl⟩) hK hN2 hw rfl hl.1 (Nat.le_of_ble_eq_true rfl) dX6_pass_25 ⟨Nat.le_of_ble_eq_true rfl, Nat.le_of_ble_eq_true rfl⟩) hw hA (fun H locs hw => ?_)
  refine lv_if_eq (tgt := 42) hx hb dX6_pass_28 (by decide) (fun c3 => absurd c3 (by rw [h2]; decide)) (fun c3 => ?_)
  refine lv_iload hx hb dX6_pass_31 (lv_at hl 4 rfl) ?_
  refine lv_iconst (v := 0) hx hb dX6_pass_33 (by decide) ?_
  refine lv_bipush (v := 40) hx hb dX6_pass_34 (by decide) ?_
  refine mc_i (mr_S (As := [.int z, .int 0, .int 40]) (rest := [.ref (a 10)]) ⟨hx, hb, hml, hown, hts⟩ (zX6_isIn l D a cs N (by omega) _ z 0 40 _) (va_cwS 3 hts gX6_pass_X6_isIn rfl rfl rfl (by decide +kernel) ⟨Nat.le_of_ble_eq_true rfl, Nat.le_of_ble_eq_true rfl⟩) hK hN2 hw rfl hl.1 (Nat.le_of_ble_eq_true rfl) dX6_pass_36 ⟨Nat.le_of_ble_eq_true rfl, Nat.le_of_ble_eq_true rfl⟩) hw hA (fun H locs hw => ?_)
  refine lv_if_ne (tgt := 46) hx hb dX6_pass_39 (by decide) (fun c4 => absurd h3 c4) (fun c4 => ?_)
  refine lv_iconst (v := 1) hx hb dX6_pass_42 (by decide) ?_
  refine lv_goto (tgt := 47) hx hb dX6_pass_43 (by decide) ?_
  refine lv_iconst (v := 1) hx hb dX6_pass_47 (by decide) ?_
  refine mc_i (mr_V (i := 10) (As := [.int 1, .int 1]) (rest := []) ⟨hx, hb, hml, hown, hts⟩ (zX6_start1 l D a cs N (by omega) _ 1 1 (by decide) (by decide)  _) (cwV 2 hts gX6_pass_X6_start rfl rfl rfl (by decide +kernel) ⟨Nat.le_of_ble_eq_true rfl, Nat.le_of_ble_eq_true rfl⟩) hK hN2 hw (by omega) mE_o kcX6 rfl hl.1 (Nat.le_of_ble_eq_true rfl) dX6_pass_48 ⟨Nat.le_of_ble_eq_true rfl, Nat.le_of_ble_eq_true rfl⟩) hw hA (fun H locs hw => ?_)
  obtain ⟨τ5, eτ5⟩ : ∃ zz : sS, m_thr σ 1 = zz := ⟨_, rfl⟩
  rw [eτ5] at hw
  refine lv_if_ne (tgt := 82) hx hb dX6_pass_51 (by decide) (fun c6 => ?_) (fun c6 => absurd c6 (by decide))
  refine lv_iconst (v := 0) hx hb dX6_pass_82 (by decide) ?_
  exact me_i hx hb hr hlocks hw (by rfl) (by subst eτ5; rfl) dX6_pass_83
theorem mX6_pass_0_5 : (Cond.fieldLink RX6 18 "SaltRowModel" "row" "LSaltRowModel$Row;") ∈ wsX6_pass := by decide +kernel
theorem iX6_pass_X6_5 : ∀ w ∈ wsX60, w ∈ wsX6_pass := by decide +kernel
theorem mX6_pass_2_5 : (Cond.fieldLink RX6 54 "SaltRowModel$Row" "day" "I") ∈ wsX6_pass := by decide +kernel
theorem iX6_pass_X5_5 : ∀ w ∈ wsX50, w ∈ wsX6_pass := by decide +kernel
theorem mX6_pass_4_5 : (Cond.fieldLink RX6 79 "SaltRowModel" "sun" "I") ∈ wsX6_pass := by decide +kernel
theorem mX6_pass_5_5 : (Cond.fieldLink RX6 82 "SaltRowModel" "wind" "I") ∈ wsX6_pass := by decide +kernel
set_option maxHeartbeats 4000000 in
set_option maxRecDepth 100000 in
theorem zX6_pass_5 (l : Launch) (D : va_G) (a : Nat → Nat) (cs : Nat → ClassId) (N : Nat) (hN : 12 ≤ N) (σ : sS) (n0 : Nat) (hn0 : n0 ≤ 30) (x y z : Int32) (h0 : g_X6_isIn (nI n0) 1 30 = 1) (h1 : g_X6_isIn x 0 9 = 1) (h2 : g_X6_isIn y 0 9 = 1) (h3 : g_X6_isIn z 0 40 = 1) (h5 : σ 0 1 + nI n0 ≤ 5000) (har : mAr σ) : mMi l yX6_pass wsX6_pass ({ frames := 4, cells := 30, slots := 240, locals := 99 }) 30 240 D a cs N [.ref (a 10), .int (nI n0), .int x, .int y, .int z] σ (g_X6_fell x y z n0 (m_thr σ 0) 0) (va_up (va_up (g_X6_days x y z n0 (m_thr σ 0)) 10 (upd (g_X6_days x y z n0 (m_thr σ 0) 10) 3 x)) 10 (upd (va_up (g_X6_days x y z n0 (m_thr σ 0)) 10 (upd (g_X6_days x y z n0 (m_thr σ 0) 10) 3 x) 10) 4 y)) := by
  intro sz
  refine Met.ofW (cc := cX6_pass) (maxL := 9) (ret := (some .int)) (by decide) rfl ?_
  intro p e s m args below meth c s₁ B hml hv
  obtain ⟨rfl, hsz, hv2⟩ := hv
  have hv3 : mB D a cs N σ sz s := ⟨hsz, hv2⟩
  subst hsz
  have hw := mH_start hv3
  obtain ⟨-, -, hK, -, hN2⟩ := hv3
  have hx := B.exec
  have hb := B.bytes
  have hr := B.returns
  have hts := atoms_spec (ws := wsX6_pass) B.pre
  have hown : s.vm.findClass RX6 = some m.cls := findClass_of_methodNamed B.named
  have hlocks := B.notSynchronized
  have hA : ∀ q : Nat, s.heap.size ≤ q → mA a N s.heap.size q := mA_new
  have hl := lv_entry ([.ref (a 10), .int (nI n0), .int x, .int y, .int z]) (n := 9) (Nat.le_of_ble_eq_true rfl)
  rw [lg_entry_eq]
  generalize (lg_sl ([.ref (a 10), .int (nI n0), .int x, .int y, .int z]) ++ List.replicate (9 - (lg_sl ([.ref (a 10), .int (nI n0), .int x, .int y, .int z])).length) Slot.unset).toArray = ls at hl ⊢
  have hl : lv_has ls 9 [(0, .ref (a 10)), (1, .int (nI n0)), (2, .int x), (3, .int y), (4, .int z)] := hl
  refine lv_aload_n hx hb dX6_pass_0 rfl (lv_at hl 0 rfl) ?_
  refine lv_iload_n hx hb dX6_pass_1 rfl (lv_at hl 1 rfl) ?_
  refine lv_iconst (v := 1) hx hb dX6_pass_2 (by decide) ?_
  refine lv_bipush (v := 30) hx hb dX6_pass_3 (by decide) ?_
  refine mc_i (mr_S (As := [.int (nI n0), .int 1, .int 30]) (rest := [.ref (a 10)]) ⟨hx, hb, hml, hown, hts⟩ (zX6_isIn l D a cs N (by omega) _ (nI n0) 1 30 _) (va_cwS 3 hts gX6_pass_X6_isIn rfl rfl rfl (by decide +kernel) ⟨Nat.le_of_ble_eq_true rfl, Nat.le_of_ble_eq_true rfl⟩) hK hN2 hw rfl hl.1 (Nat.le_of_ble_eq_true rfl) dX6_pass_5 ⟨Nat.le_of_ble_eq_true rfl, Nat.le_of_ble_eq_true rfl⟩) hw hA (fun H locs hw => ?_)
  refine lv_if_eq (tgt := 42) hx hb dX6_pass_8 (by decide) (fun c1 => absurd c1 (by rw [h0]; decide)) (fun c1 => ?_)
  refine lv_iload_n hx hb dX6_pass_11 rfl (lv_at hl 2 rfl) ?_
  refine lv_iconst (v := 0) hx hb dX6_pass_12 (by decide) ?_
  refine lv_bipush (v := 9) hx hb dX6_pass_13 (by decide) ?_
  refine mc_i (mr_S (As := [.int x, .int 0, .int 9]) (rest := [.ref (a 10)]) ⟨hx, hb, hml, hown, hts⟩ (zX6_isIn l D a cs N (by omega) _ x 0 9 _) (va_cwS 3 hts gX6_pass_X6_isIn rfl rfl rfl (by decide +kernel) ⟨Nat.le_of_ble_eq_true rfl, Nat.le_of_ble_eq_true rfl⟩) hK hN2 hw rfl hl.1 (Nat.le_of_ble_eq_true rfl) dX6_pass_15 ⟨Nat.le_of_ble_eq_true rfl, Nat.le_of_ble_eq_true rfl⟩) hw hA (fun H locs hw => ?_)
  refine lv_if_eq (tgt := 42) hx hb dX6_pass_18 (by decide) (fun c2 => absurd c2 (by rw [h1]; decide)) (fun c2 => ?_)
  refine lv_iload_n hx hb dX6_pass_21 rfl (lv_at hl 3 rfl) ?_
  refine lv_iconst (v := 0) hx hb dX6_pass_22 (by decide) ?_
  refine lv_bipush (v := 9) hx hb dX6_pass_23 (by decide) ?_
  refine mc_i (mr_S (As := [.int y, .int 0, .int 9]) (rest := [.ref (a 10)]) ⟨hx, hb, hml, hown, hts⟩ (zX6_isIn l D a cs N (by omega) _ y 0 9 _) (va_cwS 3 hts gX6_pass_X6_isIn rfl rfl rfl (by decide +kernel) ⟨Nat.le_of_ble_eq_true rfl, Nat.le_of_ble_eq_true rfl⟩) hK hN2 hw rfl hl.1 (Nat.le_of_ble_eq_true rfl) dX6_pass_25 ⟨Nat.le_of_ble_eq_true rfl, Nat.le_of_ble_eq_true rfl⟩) hw hA (fun H locs hw => ?_)
  refine lv_if_eq (tgt := 42) hx hb dX6_pass_28 (by decide) (fun c3 => absurd c3 (by rw [h2]; decide)) (fun c3 => ?_)
  refine lv_iload hx hb dX6_pass_31 (lv_at hl 4 rfl) ?_
  refine lv_iconst (v := 0) hx hb dX6_pass_33 (by decide) ?_
  refine lv_bipush (v := 40) hx hb dX6_pass_34 (by decide) ?_
  refine mc_i (mr_S (As := [.int z, .int 0, .int 40]) (rest := [.ref (a 10)]) ⟨hx, hb, hml, hown, hts⟩ (zX6_isIn l D a cs N (by omega) _ z 0 40 _) (va_cwS 3 hts gX6_pass_X6_isIn rfl rfl rfl (by decide +kernel) ⟨Nat.le_of_ble_eq_true rfl, Nat.le_of_ble_eq_true rfl⟩) hK hN2 hw rfl hl.1 (Nat.le_of_ble_eq_true rfl) dX6_pass_36 ⟨Nat.le_of_ble_eq_true rfl, Nat.le_of_ble_eq_true rfl⟩) hw hA (fun H locs hw => ?_)
  refine lv_if_ne (tgt := 46) hx hb dX6_pass_39 (by decide) (fun c4 => ?_) (fun c4 => absurd c4 (by rw [h3]; decide))
  refine lv_iconst (v := 0) hx hb dX6_pass_46 (by decide) ?_
  refine lv_iconst (v := 1) hx hb dX6_pass_47 (by decide) ?_
  refine mc_i (mr_V (i := 10) (As := [.int 0, .int 1]) (rest := []) ⟨hx, hb, hml, hown, hts⟩ (zX6_start0 l D a cs N (by omega) _ 0 1 rfl  _) (cwV 2 hts gX6_pass_X6_start rfl rfl rfl (by decide +kernel) ⟨Nat.le_of_ble_eq_true rfl, Nat.le_of_ble_eq_true rfl⟩) hK hN2 hw (by omega) mE_o kcX6 rfl hl.1 (Nat.le_of_ble_eq_true rfl) dX6_pass_48 ⟨Nat.le_of_ble_eq_true rfl, Nat.le_of_ble_eq_true rfl⟩) hw hA (fun H locs hw => ?_)
  obtain ⟨τ5, eτ5⟩ : ∃ zz : sS, m_thr σ 0 = zz := ⟨_, rfl⟩
  rw [eτ5] at hw
  refine lv_if_ne (tgt := 82) hx hb dX6_pass_51 (by decide) (fun c6 => absurd (by decide) c6) (fun c6 => ?_)
  refine lv_aload_n hx hb dX6_pass_54 rfl (lv_at hl 0 rfl) ?_
  refine lv_aload_n hx hb dX6_pass_55 rfl (lv_at hl 0 rfl) ?_
  refine mg_o1 hx hb hts iX6_pass_X6_5 hown hK hw (by omega) (hts _ mX6_pass_0_5) dX6_pass_56 ?_
  refine mg_r hx hb hts iX6_pass_X5_5 hown hK hw (by omega) 1 (by decide) (hts _ mX6_pass_2_5) dX6_pass_59 ?_
  refine lv_iload_n hx hb dX6_pass_62 rfl (lv_at hl 1 rfl) ?_
  refine lv_iadd hx hb dX6_pass_63 ?_
  refine lv_sipush (v := 5000) hx hb dX6_pass_64 (by decide) ?_
  refine lv_icmp_le (tgt := 74) hx hb dX6_pass_67 (by decide) (fun c7 => ?_) (fun c7 => absurd (by subst eτ5; exact h5) c7)
  refine lv_iconst (v := 0) hx hb dX6_pass_74 (by decide) ?_
  refine lv_iconst (v := 2) hx hb dX6_pass_75 (by decide) ?_
  refine mc_i (mr_V (i := 10) (As := [.int 0, .int 2]) (rest := []) ⟨hx, hb, hml, hown, hts⟩ (zX6_refuse0 l D a cs N (by omega) _ 0 2 rfl (by subst eτ5; rfl) _) (cwV 2 hts gX6_pass_X6_refuse rfl rfl rfl (by decide +kernel) ⟨Nat.le_of_ble_eq_true rfl, Nat.le_of_ble_eq_true rfl⟩) hK hN2 hw (by omega) mE_o kcX6 rfl hl.1 (Nat.le_of_ble_eq_true rfl) dX6_pass_76 ⟨Nat.le_of_ble_eq_true rfl, Nat.le_of_ble_eq_true rfl⟩) hw hA (fun H locs hw => ?_)
  refine lv_if_eq (tgt := 84) hx hb dX6_pass_79 (by decide) (fun c8 => ?_) (fun c8 => absurd (by decide) c8)
  refine lv_iconst (v := 0) hx hb dX6_pass_84 (by decide) ?_
  refine lv_istore (lv' := [(5, .int 0), (0, .ref (a 10)), (1, .int (nI n0)), (2, .int x), (3, .int y), (4, .int z)]) hx hb dX6_pass_85 hl (by decide) rfl (fun ls hl => ?_)
  refine lv_iconst (v := 0) hx hb dX6_pass_87 (by decide) ?_
  refine lv_istore (lv' := [(6, .int 0), (5, .int 0), (0, .ref (a 10)), (1, .int (nI n0)), (2, .int x), (3, .int y), (4, .int z)]) hx hb dX6_pass_88 hl (by decide) rfl (fun ls hl => ?_)
  have loop : ∀ (Q : State → Prop) (n : Nat) (k : Nat) (τ : sS) (v : Int32) (H : Heap) (locs : List Loc) (ls : Array Slot), k + n = n0 ∧ mAr τ → mH D a cs N (mA a N s.heap.size) s.heap τ ([]) H locs → lv_has ls 9 [(0, .ref (a 10)), (1, .int (nI n0)), (2, .int x), (3, .int y), (4, .int z), (5, .int v), (6, .int (nI k))] → (∀ (H : Heap) (locs : List Loc) (ls : Array Slot), mH D a cs N (mA a N s.heap.size) s.heap (g_X6_days x y z n τ) ([]) H locs → lv_has ls 9 [(0, .ref (a 10)), (2, .int x), (3, .int y), (5, .int (g_X6_fell x y z n τ v))] → W p l e { frames := 4, cells := 30, slots := 240, locals := 99 } s m #[Value.ref (a 10), Value.int (nI n0), Value.int x, Value.int y, Value.int z] below meth c H locs n0 (8 * n0) Q (F0 m 141 ls [])) → W p l e { frames := 4, cells := 30, slots := 240, locals := 99 } s m #[Value.ref (a 10), Value.int (nI n0), Value.int x, Value.int y, Value.int z] below meth c H locs k (8 * k) Q (F0 m 90 ls []) := by
    intro Q n
    induction n with
    | zero =>
      intro k τ v H locs ls hkn hw hl kont
      refine lv_iload hx hb dX6_pass_90 (lv_at hl 6 rfl) ?_
      refine lv_iload_n hx hb dX6_pass_92 rfl (lv_at hl 1 rfl) ?_
      refine lv_icmp_ge (tgt := 141) hx hb dX6_pass_93 (by decide) (fun c9 => ?_) (fun c9 => absurd (by rw [show k = n0 by omega]; exact Int32.le_refl _) c9)
      refine W.widen (k := n0) (n := 8 * n0) (by omega) (by omega) ?_
      exact kont H locs ls hw (lv_sub hl [0, 2, 3, 5] rfl)
    | succ n ih =>
      intro k τ v H locs ls hkn hw hl kont
      refine lv_iload hx hb dX6_pass_90 (lv_at hl 6 rfl) ?_
      refine lv_iload_n hx hb dX6_pass_92 rfl (lv_at hl 1 rfl) ?_
      refine lv_icmp_ge (tgt := 141) hx hb dX6_pass_93 (by decide) (fun c10 => absurd c10 (nI_ge (by omega) (by omega))) (fun c10 => ?_)
      refine lv_aload_n hx hb dX6_pass_96 rfl (lv_at hl 0 rfl) ?_
      refine mg_o1 hx hb hts iX6_pass_X6_5 hown hK hw (by omega) (hts _ mX6_pass_0_5) dX6_pass_97 ?_
      refine lv_iload_n hx hb dX6_pass_100 rfl (lv_at hl 2 rfl) ?_
      refine lv_iload_n hx hb dX6_pass_101 rfl (lv_at hl 3 rfl) ?_
      refine lv_iload hx hb dX6_pass_102 (lv_at hl 4 rfl) ?_
      refine mc_r (mr_V (i := 0) (As := [.int x, .int y, .int z]) (rest := []) ⟨hx, hb, hml, hown, hts⟩ (zX5_day l D a cs N (by omega) _ hkn.2 x y z _) (cwV 3 hts gX6_pass_X5_day rfl rfl rfl (by decide +kernel) ⟨Nat.le_of_ble_eq_true rfl, Nat.le_of_ble_eq_true rfl⟩) hK hN2 hw (by omega) mE_r kcX5 rfl hl.1 (Nat.le_of_ble_eq_true rfl) dX6_pass_104 ⟨by show k + 1 ≤ 30; omega, by show (8 * k) + 8 ≤ 240; omega⟩) hw hA (fun q11 H locs hw => ?_)
      obtain ⟨τ12, eτ12⟩ : ∃ zz : sS, g_X5_day τ x y z = zz := ⟨_, rfl⟩
      rw [eτ12] at hw
      refine lv_astore (lv' := [(7, .ref q11), (0, .ref (a 10)), (1, .int (nI n0)), (2, .int x), (3, .int y), (4, .int z), (5, .int v), (6, .int (nI k))]) hx hb dX6_pass_107 hl (by decide) rfl (fun ls hl => ?_)
      refine lv_iconst (v := 5) hx hb dX6_pass_109 (by decide) ?_
      refine lv_istore (lv' := [(8, .int 5), (7, .ref q11), (0, .ref (a 10)), (1, .int (nI n0)), (2, .int x), (3, .int y), (4, .int z), (5, .int v), (6, .int (nI k))]) hx hb dX6_pass_110 hl (by decide) rfl (fun ls hl => ?_)
      have loop2 : ∀ (Q : State → Prop) (n2 : Nat) (k2 : Nat) (τ2 : sS) (v2 : Int32) (H : Heap) (locs : List Loc) (ls : Array Slot), k2 + n2 = 3 → mH D a cs N (mA a N s.heap.size) s.heap τ2 ([(q11, .inl (cs 1, 8, .inl (g_X5_made τ x y z)))]) H locs → lv_has ls 9 [(0, .ref (a 10)), (1, .int (nI n0)), (2, .int x), (3, .int y), (4, .int z), (5, .int v2), (6, .int (nI k)), (7, .ref q11), (8, .int (nI (5 + k2)))] → (∀ (H : Heap) (locs : List Loc) (ls : Array Slot), mH D a cs N (mA a N s.heap.size) s.heap (τ2) ([(q11, .inl (cs 1, 8, .inl (g_X5_made τ x y z)))]) H locs → lv_has ls 9 [(0, .ref (a 10)), (1, .int (nI n0)), (2, .int x), (3, .int y), (4, .int z), (5, .int (g_sum (g_X5_made τ x y z) n2 (5 + k2) v2)), (6, .int (nI k))] → W p l e { frames := 4, cells := 30, slots := 240, locals := 99 } s m #[Value.ref (a 10), Value.int (nI n0), Value.int x, Value.int y, Value.int z] below meth c H locs (k + 1) ((8 * k) + 8) Q (F0 m 135 ls [])) → W p l e { frames := 4, cells := 30, slots := 240, locals := 99 } s m #[Value.ref (a 10), Value.int (nI n0), Value.int x, Value.int y, Value.int z] below meth c H locs (k + 1) ((8 * k) + 8) Q (F0 m 112 ls []) := by
        intro Q n2
        induction n2 with
        | zero =>
          intro k2 τ2 v2 H locs ls hkn2 hw hl kont2
          refine lv_iload hx hb dX6_pass_112 (lv_at hl 8 rfl) ?_
          refine lv_bipush (v := 8) hx hb dX6_pass_114 (by decide) ?_
          refine lv_icmp_ge (tgt := 135) hx hb dX6_pass_116 (by decide) (fun c13 => ?_) (fun c13 => absurd (by rw [show k2 = 3 by omega]; decide) c13)
          exact kont2 H locs ls hw (lv_sub hl [0, 1, 2, 3, 4, 5, 6] rfl)
        | succ n2 ih2 =>
          intro k2 τ2 v2 H locs ls hkn2 hw hl kont2
          refine lv_iload hx hb dX6_pass_112 (lv_at hl 8 rfl) ?_
          refine lv_bipush (v := 8) hx hb dX6_pass_114 (by decide) ?_
          refine lv_icmp_ge (tgt := 135) hx hb dX6_pass_116 (by decide) (fun c14 => absurd c14 (nI_ge (a := 5 + k2) (b := 8) (by omega) (by decide))) (fun c14 => ?_)
          refine lv_iload hx hb dX6_pass_119 (lv_at hl 5 rfl) ?_
          refine lv_aload hx hb dX6_pass_121 (lv_at hl 7 rfl) ?_
          refine lv_iload hx hb dX6_pass_123 (lv_at hl 8 rfl) ?_
          refine mx_ld (n := 8) (k := (5 + k2)) (f := (g_X5_made τ x y z)) hx hb hK hw 0 rfl (by omega) (by decide) rfl dX6_pass_125 ?_
          refine lv_iadd hx hb dX6_pass_126 ?_
          refine lv_istore (lv' := [(5, .int (v2 + ((g_X5_made τ x y z) (5 + k2)))), (0, .ref (a 10)), (1, .int (nI n0)), (2, .int x), (3, .int y), (4, .int z), (6, .int (nI k)), (7, .ref q11), (8, .int (nI (5 + k2)))]) hx hb dX6_pass_127 hl (by decide) rfl (fun ls hl => ?_)
          refine lv_iinc (v := nI ((5 + k2) + 1)) (lv' := [(8, .int (nI ((5 + k2) + 1))), (5, .int (v2 + ((g_X5_made τ x y z) (5 + k2)))), (0, .ref (a 10)), (1, .int (nI n0)), (2, .int x), (3, .int y), (4, .int z), (6, .int (nI k)), (7, .ref q11)]) hx hb dX6_pass_129 hl (k := 8) rfl (nI_1 (5 + k2)) (by decide) rfl (fun ls hl => ?_)
          refine lv_goto (tgt := 112) hx hb dX6_pass_132 (by decide) ?_
          have hstep : τ2 = τ2 := by
            rfl
          have hval0 : g_sum (g_X5_made τ x y z) (n2 + 1) (5 + k2) v2 = g_sum (g_X5_made τ x y z) n2 (5 + (k2 + 1)) (v2 + ((g_X5_made τ x y z) (5 + k2))) := by
            rfl
          exact ih2 (k2 + 1) τ2 (v2 + ((g_X5_made τ x y z) (5 + k2))) H locs ls (by omega) hw (lv_sub hl [2, 3, 4, 5, 6, 1, 7, 8, 0] rfl) (fun H locs ls hw hl => kont2 H locs ls (by rw [hstep]; exact hw) (by rw [hval0]; exact hl))
      refine loop2 _ 3 0 τ12 v _ _ _ (by decide) hw (lv_sub hl [2, 3, 4, 5, 6, 7, 8, 1, 0] rfl) (fun H locs ls hw hl => ?_)
      obtain ⟨τ15, eτ15⟩ : ∃ zz : sS, τ12 = zz := ⟨_, rfl⟩
      rw [eτ15] at hw
      have hw := mH_drop hw
      refine lv_iinc (v := nI (k + 1)) (lv' := [(6, .int (nI (k + 1))), (0, .ref (a 10)), (1, .int (nI n0)), (2, .int x), (3, .int y), (4, .int z), (5, .int (g_sum (g_X5_made τ x y z) 3 (5 + 0) v))]) hx hb dX6_pass_135 hl (k := 6) rfl (nI_1 k) (by decide) rfl (fun ls hl => ?_)
      refine lv_goto (tgt := 90) hx hb dX6_pass_138 (by decide) ?_
      have hstep : g_X6_days x y z (n + 1) τ = g_X6_days x y z n τ15 := by
        subst eτ15 eτ12; rfl
      have hval0 : g_X6_fell x y z (n + 1) τ v = g_X6_fell x y z n τ15 (g_sum (g_X5_made τ x y z) 3 (5 + 0) v) := by
        subst eτ15 eτ12; rfl
      refine W.widen (k := (k + 1)) (n := 8 * (k + 1)) (by omega) (by omega) ?_
      exact ih (k + 1) τ15 (g_sum (g_X5_made τ x y z) 3 (5 + 0) v) H locs ls ⟨by omega, by subst eτ15 eτ12; exact mAr_day hkn.2⟩ hw (lv_sub hl [1, 2, 3, 4, 5, 6, 0] rfl) (fun H locs ls hw hl => kont H locs ls (by rw [hstep]; exact hw) (by rw [hval0]; exact hl))
  refine loop _ n0 0 τ5 0 _ _ _ ⟨Nat.zero_add n0, (by subst eτ5; exact mAr_thr har)⟩ hw (lv_sub hl [2, 3, 4, 5, 6, 1, 0] rfl) (fun H locs ls hw hl => ?_)
  obtain ⟨τ16, eτ16⟩ : ∃ zz : sS, g_X6_days x y z n0 τ5 = zz := ⟨_, rfl⟩
  rw [eτ16] at hw
  refine lv_aload_n hx hb dX6_pass_141 rfl (lv_at hl 0 rfl) ?_
  refine lv_iload_n hx hb dX6_pass_142 rfl (lv_at hl 1 rfl) ?_
  refine mp_o hx hb hts iX6_pass_X6_5 hown hK hw (by omega) 3 (by decide) (hts _ mX6_pass_4_5) dX6_pass_143 (fun H locs hw => ?_)
  obtain ⟨τ17, eτ17⟩ : ∃ zz : sS, va_up τ16 10 (upd (τ16 10) 3 x) = zz := ⟨_, rfl⟩
  rw [eτ17] at hw
  refine lv_aload_n hx hb dX6_pass_146 rfl (lv_at hl 0 rfl) ?_
  refine lv_iload_n hx hb dX6_pass_147 rfl (lv_at hl 2 rfl) ?_
  refine mp_o hx hb hts iX6_pass_X6_5 hown hK hw (by omega) 4 (by decide) (hts _ mX6_pass_5_5) dX6_pass_148 (fun H locs hw => ?_)
  obtain ⟨τ18, eτ18⟩ : ∃ zz : sS, va_up τ17 10 (upd (τ17 10) 4 y) = zz := ⟨_, rfl⟩
  rw [eτ18] at hw
  refine lv_iload hx hb dX6_pass_151 (lv_at hl 3 rfl) ?_
  refine W.widen (k := 30) (n := 240) (by omega) (by omega) ?_
  exact me_i hx hb hr hlocks hw (by subst eτ18 eτ17 eτ16 eτ5; rfl) (by subst eτ18 eτ17 eτ16 eτ5; rfl) dX6_pass_153
set_option maxHeartbeats 4000000 in
set_option maxRecDepth 100000 in
theorem zX6_skim_1 (l : Launch) (D : va_G) (a : Nat → Nat) (cs : Nat → ClassId) (N : Nat) (hN : 12 ≤ N) (σ : sS) (p0 : Int32) (hp : g_X6_isNoPond p0 = 1) : mMi l yX6_skim wsX6_skim ({ frames := 2, cells := 0, slots := 0, locals := 44 }) 0 0 D a cs N [.ref (a 10), .int p0] σ 0 (m_thr σ 1) := by
  intro sz
  refine Met.ofW (cc := cX6_skim) (maxL := 3) (ret := (some .int)) (by decide) rfl ?_
  intro p e s m args below meth c s₁ B hml hv
  obtain ⟨rfl, hsz, hv2⟩ := hv
  have hv3 : mB D a cs N σ sz s := ⟨hsz, hv2⟩
  subst hsz
  have hw := mH_start hv3
  obtain ⟨-, -, hK, -, hN2⟩ := hv3
  have hx := B.exec
  have hb := B.bytes
  have hr := B.returns
  have hts := atoms_spec (ws := wsX6_skim) B.pre
  have hown : s.vm.findClass RX6 = some m.cls := findClass_of_methodNamed B.named
  have hlocks := B.notSynchronized
  have hA : ∀ q : Nat, s.heap.size ≤ q → mA a N s.heap.size q := mA_new
  have hl := lv_entry ([.ref (a 10), .int p0]) (n := 3) (Nat.le_of_ble_eq_true rfl)
  rw [lg_entry_eq]
  generalize (lg_sl ([.ref (a 10), .int p0]) ++ List.replicate (3 - (lg_sl ([.ref (a 10), .int p0])).length) Slot.unset).toArray = ls at hl ⊢
  have hl : lv_has ls 3 [(0, .ref (a 10)), (1, .int p0)] := hl
  refine lv_aload_n hx hb dX6_skim_0 rfl (lv_at hl 0 rfl) ?_
  refine lv_iload_n hx hb dX6_skim_1 rfl (lv_at hl 1 rfl) ?_
  refine mc_i (mr_S (As := [.int p0]) (rest := [.ref (a 10)]) ⟨hx, hb, hml, hown, hts⟩ (zX6_isNoPond l D a cs N (by omega) _ p0 _) (va_cwS 1 hts gX6_skim_X6_isNoPond rfl rfl rfl (by decide +kernel) ⟨Nat.le_of_ble_eq_true rfl, Nat.le_of_ble_eq_true rfl⟩) hK hN2 hw rfl hl.1 (Nat.le_of_ble_eq_true rfl) dX6_skim_2 ⟨Nat.le_of_ble_eq_true rfl, Nat.le_of_ble_eq_true rfl⟩) hw hA (fun H locs hw => ?_)
  refine lv_iconst (v := 1) hx hb dX6_skim_5 (by decide) ?_
  refine mc_i (mr_V (i := 10) (As := [.int (g_X6_isNoPond p0), .int 1]) (rest := []) ⟨hx, hb, hml, hown, hts⟩ (zX6_start1 l D a cs N (by omega) _ (g_X6_isNoPond p0) 1 (by rw [hp]; decide) (by decide)  _) (cwV 2 hts gX6_skim_X6_start rfl rfl rfl (by decide +kernel) ⟨Nat.le_of_ble_eq_true rfl, Nat.le_of_ble_eq_true rfl⟩) hK hN2 hw (by omega) mE_o kcX6 rfl hl.1 (Nat.le_of_ble_eq_true rfl) dX6_skim_6 ⟨Nat.le_of_ble_eq_true rfl, Nat.le_of_ble_eq_true rfl⟩) hw hA (fun H locs hw => ?_)
  obtain ⟨τ1, eτ1⟩ : ∃ zz : sS, m_thr σ 1 = zz := ⟨_, rfl⟩
  rw [eτ1] at hw
  refine lv_if_eq (tgt := 14) hx hb dX6_skim_9 (by decide) (fun c2 => absurd c2 (by decide)) (fun c2 => ?_)
  refine lv_iconst (v := 0) hx hb dX6_skim_12 (by decide) ?_
  exact me_i hx hb hr hlocks hw (by rfl) (by subst eτ1; rfl) dX6_skim_13
theorem mX6_skim_0_2 : (Cond.fieldLink RX6 18 "SaltRowModel" "row" "LSaltRowModel$Row;") ∈ wsX6_skim := by decide +kernel
theorem iX6_skim_X6_2 : ∀ w ∈ wsX60, w ∈ wsX6_skim := by decide +kernel
theorem mX6_skim_2_2 : (Cond.fieldLink RX6 57 "SaltRowModel$Row" "ponds" "[LSaltRowModel$Pond;") ∈ wsX6_skim := by decide +kernel
theorem iX6_skim_X5_2 : ∀ w ∈ wsX50, w ∈ wsX6_skim := by decide +kernel
theorem mX6_skim_4_2 : (Cond.fieldLink RX6 85 "SaltRowModel$Pond" "fresh" "I") ∈ wsX6_skim := by decide +kernel
theorem iX6_skim_X4_2 : ∀ w ∈ wsX40, w ∈ wsX6_skim := by decide +kernel
theorem mX6_skim_6_2 : (Cond.fieldLink RX6 88 "SaltRowModel" "skimmed" "I") ∈ wsX6_skim := by decide +kernel
set_option maxHeartbeats 4000000 in
set_option maxRecDepth 100000 in
theorem zX6_skim_2 (l : Launch) (D : va_G) (a : Nat → Nat) (cs : Nat → ClassId) (N : Nat) (hN : 12 ≤ N) (σ : sS) (k : Nat) (hk : k < 8)  : mMi l yX6_skim wsX6_skim ({ frames := 2, cells := 0, slots := 0, locals := 44 }) 0 0 D a cs N [.ref (a 10), .int (nI k)] σ (m_thr σ 0 (2 + k) 5) (va_up (va_up (m_thr σ 0) (2 + k) (upd (m_thr σ 0 (2 + k)) 5 0)) 10 (upd (va_up (m_thr σ 0) (2 + k) (upd (m_thr σ 0 (2 + k)) 5 0) 10) 9 (va_up (m_thr σ 0) (2 + k) (upd (m_thr σ 0 (2 + k)) 5 0) 10 9 + m_thr σ 0 (2 + k) 5))) := by
  intro sz
  refine Met.ofW (cc := cX6_skim) (maxL := 3) (ret := (some .int)) (by decide) rfl ?_
  intro p e s m args below meth c s₁ B hml hv
  obtain ⟨rfl, hsz, hv2⟩ := hv
  have hv3 : mB D a cs N σ sz s := ⟨hsz, hv2⟩
  subst hsz
  have hw := mH_start hv3
  obtain ⟨-, -, hK, -, hN2⟩ := hv3
  have hx := B.exec
  have hb := B.bytes
  have hr := B.returns
  have hts := atoms_spec (ws := wsX6_skim) B.pre
  have hown : s.vm.findClass RX6 = some m.cls := findClass_of_methodNamed B.named
  have hlocks := B.notSynchronized
  have hA : ∀ q : Nat, s.heap.size ≤ q → mA a N s.heap.size q := mA_new
  have hl := lv_entry ([.ref (a 10), .int (nI k)]) (n := 3) (Nat.le_of_ble_eq_true rfl)
  rw [lg_entry_eq]
  generalize (lg_sl ([.ref (a 10), .int (nI k)]) ++ List.replicate (3 - (lg_sl ([.ref (a 10), .int (nI k)])).length) Slot.unset).toArray = ls at hl ⊢
  have hl : lv_has ls 3 [(0, .ref (a 10)), (1, .int (nI k))] := hl
  refine lv_aload_n hx hb dX6_skim_0 rfl (lv_at hl 0 rfl) ?_
  refine lv_iload_n hx hb dX6_skim_1 rfl (lv_at hl 1 rfl) ?_
  refine mc_i (mr_S (As := [.int (nI k)]) (rest := [.ref (a 10)]) ⟨hx, hb, hml, hown, hts⟩ (zX6_isNoPond l D a cs N (by omega) _ (nI k) _) (va_cwS 1 hts gX6_skim_X6_isNoPond rfl rfl rfl (by decide +kernel) ⟨Nat.le_of_ble_eq_true rfl, Nat.le_of_ble_eq_true rfl⟩) hK hN2 hw rfl hl.1 (Nat.le_of_ble_eq_true rfl) dX6_skim_2 ⟨Nat.le_of_ble_eq_true rfl, Nat.le_of_ble_eq_true rfl⟩) hw hA (fun H locs hw => ?_)
  refine lv_iconst (v := 1) hx hb dX6_skim_5 (by decide) ?_
  refine mc_i (mr_V (i := 10) (As := [.int (g_X6_isNoPond (nI k)), .int 1]) (rest := []) ⟨hx, hb, hml, hown, hts⟩ (zX6_start0 l D a cs N (by omega) _ (g_X6_isNoPond (nI k)) 1 (m_pond hk)  _) (cwV 2 hts gX6_skim_X6_start rfl rfl rfl (by decide +kernel) ⟨Nat.le_of_ble_eq_true rfl, Nat.le_of_ble_eq_true rfl⟩) hK hN2 hw (by omega) mE_o kcX6 rfl hl.1 (Nat.le_of_ble_eq_true rfl) dX6_skim_6 ⟨Nat.le_of_ble_eq_true rfl, Nat.le_of_ble_eq_true rfl⟩) hw hA (fun H locs hw => ?_)
  obtain ⟨τ1, eτ1⟩ : ∃ zz : sS, m_thr σ 0 = zz := ⟨_, rfl⟩
  rw [eτ1] at hw
  refine lv_if_eq (tgt := 14) hx hb dX6_skim_9 (by decide) (fun c2 => ?_) (fun c2 => absurd (by decide) c2)
  refine lv_aload_n hx hb dX6_skim_14 rfl (lv_at hl 0 rfl) ?_
  refine mg_o1 hx hb hts iX6_skim_X6_2 hown hK hw (by omega) (hts _ mX6_skim_0_2) dX6_skim_15 ?_
  refine mg_rq hx hb hts iX6_skim_X5_2 hown hK hw (by omega) (hts _ mX6_skim_2_2) dX6_skim_18 ?_
  refine lv_iload_n hx hb dX6_skim_21 rfl (lv_at hl 1 rfl) ?_
  refine mg_q (k := k) hx hb hK hw (by omega) (by omega) rfl dX6_skim_22 ?_
  refine mg_p hx hb hts iX6_skim_X4_2 hown hK hw (by omega) (by omega) 5 (by decide) (hts _ mX6_skim_4_2) dX6_skim_23 ?_
  refine lv_istore_n (lv' := [(2, .int (τ1 (2 + k) 5)), (0, .ref (a 10)), (1, .int (nI k))]) hx hb dX6_skim_26 rfl hl (by decide) rfl (fun ls hl => ?_)
  refine lv_aload_n hx hb dX6_skim_27 rfl (lv_at hl 1 rfl) ?_
  refine mg_o1 hx hb hts iX6_skim_X6_2 hown hK hw (by omega) (hts _ mX6_skim_0_2) dX6_skim_28 ?_
  refine mg_rq hx hb hts iX6_skim_X5_2 hown hK hw (by omega) (hts _ mX6_skim_2_2) dX6_skim_31 ?_
  refine lv_iload_n hx hb dX6_skim_34 rfl (lv_at hl 2 rfl) ?_
  refine mg_q (k := k) hx hb hK hw (by omega) (by omega) rfl dX6_skim_35 ?_
  refine lv_iconst (v := 0) hx hb dX6_skim_36 (by decide) ?_
  refine mp_p hx hb hts iX6_skim_X4_2 hown hK hw (by omega) (by omega) 5 (by decide) (hts _ mX6_skim_4_2) dX6_skim_37 (fun H locs hw => ?_)
  obtain ⟨τ3, eτ3⟩ : ∃ zz : sS, va_up τ1 (2 + k) (upd (τ1 (2 + k)) 5 0) = zz := ⟨_, rfl⟩
  rw [eτ3] at hw
  refine lv_aload_n hx hb dX6_skim_40 rfl (lv_at hl 1 rfl) ?_
  refine lv_dup hx hb dX6_skim_41 rfl ?_
  refine mg_o hx hb hts iX6_skim_X6_2 hown hK hw (by omega) 9 (by decide) (hts _ mX6_skim_6_2) dX6_skim_42 ?_
  refine lv_iload_n hx hb dX6_skim_45 rfl (lv_at hl 0 rfl) ?_
  refine lv_iadd hx hb dX6_skim_46 ?_
  refine mp_o hx hb hts iX6_skim_X6_2 hown hK hw (by omega) 9 (by decide) (hts _ mX6_skim_6_2) dX6_skim_47 (fun H locs hw => ?_)
  obtain ⟨τ4, eτ4⟩ : ∃ zz : sS, va_up τ3 10 (upd (τ3 10) 9 ((τ3 10 9) + (τ1 (2 + k) 5))) = zz := ⟨_, rfl⟩
  rw [eτ4] at hw
  refine lv_iload_n hx hb dX6_skim_50 rfl (lv_at hl 0 rfl) ?_
  exact me_i hx hb hr hlocks hw (by subst eτ4 eτ3 eτ1; rfl) (by subst eτ4 eτ3 eτ1; rfl) dX6_skim_51
set_option maxHeartbeats 4000000 in
set_option maxRecDepth 100000 in
theorem zX6_drain_1 (l : Launch) (D : va_G) (a : Nat → Nat) (cs : Nat → ClassId) (N : Nat) (hN : 12 ≤ N) (σ : sS) (p0 : Int32) (hp : g_X6_isNoPond p0 = 1) : mMi l yX6_drain wsX6_drain ({ frames := 2, cells := 0, slots := 0, locals := 45 }) 0 0 D a cs N [.ref (a 10), .int p0] σ 0 (m_thr σ 1) := by
  intro sz
  refine Met.ofW (cc := cX6_drain) (maxL := 4) (ret := (some .int)) (by decide) rfl ?_
  intro p e s m args below meth c s₁ B hml hv
  obtain ⟨rfl, hsz, hv2⟩ := hv
  have hv3 : mB D a cs N σ sz s := ⟨hsz, hv2⟩
  subst hsz
  have hw := mH_start hv3
  obtain ⟨-, -, hK, -, hN2⟩ := hv3
  have hx := B.exec
  have hb := B.bytes
  have hr := B.returns
  have hts := atoms_spec (ws := wsX6_drain) B.pre
  have hown : s.vm.findClass RX6 = some m.cls := findClass_of_methodNamed B.named
  have hlocks := B.notSynchronized
  have hA : ∀ q : Nat, s.heap.size ≤ q → mA a N s.heap.size q := mA_new
  have hl := lv_entry ([.ref (a 10), .int p0]) (n := 4) (Nat.le_of_ble_eq_true rfl)
  rw [lg_entry_eq]
  generalize (lg_sl ([.ref (a 10), .int p0]) ++ List.replicate (4 - (lg_sl ([.ref (a 10), .int p0])).length) Slot.unset).toArray = ls at hl ⊢
  have hl : lv_has ls 4 [(0, .ref (a 10)), (1, .int p0)] := hl
  refine lv_aload_n hx hb dX6_drain_0 rfl (lv_at hl 0 rfl) ?_
  refine lv_iload_n hx hb dX6_drain_1 rfl (lv_at hl 1 rfl) ?_
  refine mc_i (mr_S (As := [.int p0]) (rest := [.ref (a 10)]) ⟨hx, hb, hml, hown, hts⟩ (zX6_isNoPond l D a cs N (by omega) _ p0 _) (va_cwS 1 hts gX6_drain_X6_isNoPond rfl rfl rfl (by decide +kernel) ⟨Nat.le_of_ble_eq_true rfl, Nat.le_of_ble_eq_true rfl⟩) hK hN2 hw rfl hl.1 (Nat.le_of_ble_eq_true rfl) dX6_drain_2 ⟨Nat.le_of_ble_eq_true rfl, Nat.le_of_ble_eq_true rfl⟩) hw hA (fun H locs hw => ?_)
  refine lv_iconst (v := 1) hx hb dX6_drain_5 (by decide) ?_
  refine mc_i (mr_V (i := 10) (As := [.int (g_X6_isNoPond p0), .int 1]) (rest := []) ⟨hx, hb, hml, hown, hts⟩ (zX6_start1 l D a cs N (by omega) _ (g_X6_isNoPond p0) 1 (by rw [hp]; decide) (by decide)  _) (cwV 2 hts gX6_drain_X6_start rfl rfl rfl (by decide +kernel) ⟨Nat.le_of_ble_eq_true rfl, Nat.le_of_ble_eq_true rfl⟩) hK hN2 hw (by omega) mE_o kcX6 rfl hl.1 (Nat.le_of_ble_eq_true rfl) dX6_drain_6 ⟨Nat.le_of_ble_eq_true rfl, Nat.le_of_ble_eq_true rfl⟩) hw hA (fun H locs hw => ?_)
  obtain ⟨τ1, eτ1⟩ : ∃ zz : sS, m_thr σ 1 = zz := ⟨_, rfl⟩
  rw [eτ1] at hw
  refine lv_if_ne (tgt := 54) hx hb dX6_drain_9 (by decide) (fun c2 => ?_) (fun c2 => absurd c2 (by decide))
  refine lv_iconst (v := 0) hx hb dX6_drain_54 (by decide) ?_
  exact me_i hx hb hr hlocks hw (by rfl) (by subst eτ1; rfl) dX6_drain_55
theorem mX6_drain_0_2 : (Cond.fieldLink RX6 18 "SaltRowModel" "row" "LSaltRowModel$Row;") ∈ wsX6_drain := by decide +kernel
theorem iX6_drain_X6_2 : ∀ w ∈ wsX60, w ∈ wsX6_drain := by decide +kernel
theorem mX6_drain_2_2 : (Cond.fieldLink RX6 57 "SaltRowModel$Row" "ponds" "[LSaltRowModel$Pond;") ∈ wsX6_drain := by decide +kernel
theorem iX6_drain_X5_2 : ∀ w ∈ wsX50, w ∈ wsX6_drain := by decide +kernel
theorem mX6_drain_4_2 : (Cond.fieldLink RX6 91 "SaltRowModel$Pond" "brine" "I") ∈ wsX6_drain := by decide +kernel
theorem iX6_drain_X4_2 : ∀ w ∈ wsX40, w ∈ wsX6_drain := by decide +kernel
set_option maxHeartbeats 4000000 in
set_option maxRecDepth 100000 in
theorem zX6_drain_2 (l : Launch) (D : va_G) (a : Nat → Nat) (cs : Nat → ClassId) (N : Nat) (hN : 12 ≤ N) (σ : sS) (k : Nat) (hk : k < 8) (hb0 : σ (2 + k) 1 = 0) : mMi l yX6_drain wsX6_drain ({ frames := 2, cells := 0, slots := 0, locals := 45 }) 0 0 D a cs N [.ref (a 10), .int (nI k)] σ 0 (m_thr σ 2) := by
  intro sz
  refine Met.ofW (cc := cX6_drain) (maxL := 4) (ret := (some .int)) (by decide) rfl ?_
  intro p e s m args below meth c s₁ B hml hv
  obtain ⟨rfl, hsz, hv2⟩ := hv
  have hv3 : mB D a cs N σ sz s := ⟨hsz, hv2⟩
  subst hsz
  have hw := mH_start hv3
  obtain ⟨-, -, hK, -, hN2⟩ := hv3
  have hx := B.exec
  have hb := B.bytes
  have hr := B.returns
  have hts := atoms_spec (ws := wsX6_drain) B.pre
  have hown : s.vm.findClass RX6 = some m.cls := findClass_of_methodNamed B.named
  have hlocks := B.notSynchronized
  have hA : ∀ q : Nat, s.heap.size ≤ q → mA a N s.heap.size q := mA_new
  have hl := lv_entry ([.ref (a 10), .int (nI k)]) (n := 4) (Nat.le_of_ble_eq_true rfl)
  rw [lg_entry_eq]
  generalize (lg_sl ([.ref (a 10), .int (nI k)]) ++ List.replicate (4 - (lg_sl ([.ref (a 10), .int (nI k)])).length) Slot.unset).toArray = ls at hl ⊢
  have hl : lv_has ls 4 [(0, .ref (a 10)), (1, .int (nI k))] := hl
  refine lv_aload_n hx hb dX6_drain_0 rfl (lv_at hl 0 rfl) ?_
  refine lv_iload_n hx hb dX6_drain_1 rfl (lv_at hl 1 rfl) ?_
  refine mc_i (mr_S (As := [.int (nI k)]) (rest := [.ref (a 10)]) ⟨hx, hb, hml, hown, hts⟩ (zX6_isNoPond l D a cs N (by omega) _ (nI k) _) (va_cwS 1 hts gX6_drain_X6_isNoPond rfl rfl rfl (by decide +kernel) ⟨Nat.le_of_ble_eq_true rfl, Nat.le_of_ble_eq_true rfl⟩) hK hN2 hw rfl hl.1 (Nat.le_of_ble_eq_true rfl) dX6_drain_2 ⟨Nat.le_of_ble_eq_true rfl, Nat.le_of_ble_eq_true rfl⟩) hw hA (fun H locs hw => ?_)
  refine lv_iconst (v := 1) hx hb dX6_drain_5 (by decide) ?_
  refine mc_i (mr_V (i := 10) (As := [.int (g_X6_isNoPond (nI k)), .int 1]) (rest := []) ⟨hx, hb, hml, hown, hts⟩ (zX6_start0 l D a cs N (by omega) _ (g_X6_isNoPond (nI k)) 1 (m_pond hk)  _) (cwV 2 hts gX6_drain_X6_start rfl rfl rfl (by decide +kernel) ⟨Nat.le_of_ble_eq_true rfl, Nat.le_of_ble_eq_true rfl⟩) hK hN2 hw (by omega) mE_o kcX6 rfl hl.1 (Nat.le_of_ble_eq_true rfl) dX6_drain_6 ⟨Nat.le_of_ble_eq_true rfl, Nat.le_of_ble_eq_true rfl⟩) hw hA (fun H locs hw => ?_)
  obtain ⟨τ1, eτ1⟩ : ∃ zz : sS, m_thr σ 0 = zz := ⟨_, rfl⟩
  rw [eτ1] at hw
  refine lv_if_ne (tgt := 54) hx hb dX6_drain_9 (by decide) (fun c2 => absurd (by decide) c2) (fun c2 => ?_)
  refine lv_aload_n hx hb dX6_drain_12 rfl (lv_at hl 0 rfl) ?_
  refine lv_aload_n hx hb dX6_drain_13 rfl (lv_at hl 0 rfl) ?_
  refine mg_o1 hx hb hts iX6_drain_X6_2 hown hK hw (by omega) (hts _ mX6_drain_0_2) dX6_drain_14 ?_
  refine mg_rq hx hb hts iX6_drain_X5_2 hown hK hw (by omega) (hts _ mX6_drain_2_2) dX6_drain_17 ?_
  refine lv_iload_n hx hb dX6_drain_20 rfl (lv_at hl 1 rfl) ?_
  refine mg_q (k := k) hx hb hK hw (by omega) (by omega) rfl dX6_drain_21 ?_
  refine mg_p hx hb hts iX6_drain_X4_2 hown hK hw (by omega) (by omega) 1 (by decide) (hts _ mX6_drain_4_2) dX6_drain_22 ?_
  refine lv_if_eq (tgt := 42) hx hb dX6_drain_25 (by decide) (fun c3 => ?_) (fun c3 => absurd (by subst eτ1; rw [m_thr_ne (by omega)]; exact hb0) c3)
  refine lv_iconst (v := 1) hx hb dX6_drain_42 (by decide) ?_
  refine lv_goto (tgt := 47) hx hb dX6_drain_43 (by decide) ?_
  refine lv_iconst (v := 2) hx hb dX6_drain_47 (by decide) ?_
  refine mc_i (mr_V (i := 10) (As := [.int 1, .int 2]) (rest := []) ⟨hx, hb, hml, hown, hts⟩ (zX6_refuse1 l D a cs N (by omega) _ 1 2 (by decide) (by decide) (by subst eτ1; rfl) _) (cwV 2 hts gX6_drain_X6_refuse rfl rfl rfl (by decide +kernel) ⟨Nat.le_of_ble_eq_true rfl, Nat.le_of_ble_eq_true rfl⟩) hK hN2 hw (by omega) mE_o kcX6 rfl hl.1 (Nat.le_of_ble_eq_true rfl) dX6_drain_48 ⟨Nat.le_of_ble_eq_true rfl, Nat.le_of_ble_eq_true rfl⟩) hw hA (fun H locs hw => ?_)
  obtain ⟨τ4, eτ4⟩ : ∃ zz : sS, m_thr τ1 2 = zz := ⟨_, rfl⟩
  rw [eτ4] at hw
  refine lv_if_eq (tgt := 56) hx hb dX6_drain_51 (by decide) (fun c5 => absurd c5 (by decide)) (fun c5 => ?_)
  refine lv_iconst (v := 0) hx hb dX6_drain_54 (by decide) ?_
  exact me_i hx hb hr hlocks hw (by rfl) (by subst eτ4 eτ1; exact m_thr2 _ _ _) dX6_drain_55
set_option maxHeartbeats 4000000 in
set_option maxRecDepth 100000 in
theorem zX6_pump_1 (l : Launch) (D : va_G) (a : Nat → Nat) (cs : Nat → ClassId) (N : Nat) (hN : 12 ≤ N) (σ : sS) (p0 y z : Int32) (hp : g_X6_isNoPond p0 = 1) : mMi l yX6_pump wsX6_pump ({ frames := 2, cells := 0, slots := 0, locals := 47 }) 0 0 D a cs N [.ref (a 10), .int p0, .int y, .int z] σ 0 (m_thr σ 1) := by
  intro sz
  refine Met.ofW (cc := cX6_pump) (maxL := 4) (ret := (some .int)) (by decide) rfl ?_
  intro p e s m args below meth c s₁ B hml hv
  obtain ⟨rfl, hsz, hv2⟩ := hv
  have hv3 : mB D a cs N σ sz s := ⟨hsz, hv2⟩
  subst hsz
  have hw := mH_start hv3
  obtain ⟨-, -, hK, -, hN2⟩ := hv3
  have hx := B.exec
  have hb := B.bytes
  have hr := B.returns
  have hts := atoms_spec (ws := wsX6_pump) B.pre
  have hown : s.vm.findClass RX6 = some m.cls := findClass_of_methodNamed B.named
  have hlocks := B.notSynchronized
  have hA : ∀ q : Nat, s.heap.size ≤ q → mA a N s.heap.size q := mA_new
  have hl := lv_entry ([.ref (a 10), .int p0, .int y, .int z]) (n := 4) (Nat.le_of_ble_eq_true rfl)
  rw [lg_entry_eq]
  generalize (lg_sl ([.ref (a 10), .int p0, .int y, .int z]) ++ List.replicate (4 - (lg_sl ([.ref (a 10), .int p0, .int y, .int z])).length) Slot.unset).toArray = ls at hl ⊢
  have hl : lv_has ls 4 [(0, .ref (a 10)), (1, .int p0), (2, .int y), (3, .int z)] := hl
  refine lv_aload_n hx hb dX6_pump_0 rfl (lv_at hl 0 rfl) ?_
  refine lv_iload_n hx hb dX6_pump_1 rfl (lv_at hl 1 rfl) ?_
  refine mc_i (mr_S (As := [.int p0]) (rest := [.ref (a 10)]) ⟨hx, hb, hml, hown, hts⟩ (zX6_isNoPond l D a cs N (by omega) _ p0 _) (va_cwS 1 hts gX6_pump_X6_isNoPond rfl rfl rfl (by decide +kernel) ⟨Nat.le_of_ble_eq_true rfl, Nat.le_of_ble_eq_true rfl⟩) hK hN2 hw rfl hl.1 (Nat.le_of_ble_eq_true rfl) dX6_pump_2 ⟨Nat.le_of_ble_eq_true rfl, Nat.le_of_ble_eq_true rfl⟩) hw hA (fun H locs hw => ?_)
  refine lv_if_ne (tgt := 15) hx hb dX6_pump_5 (by decide) (fun c1 => ?_) (fun c1 => absurd c1 (by rw [hp]; decide))
  refine lv_iconst (v := 1) hx hb dX6_pump_15 (by decide) ?_
  refine lv_goto (tgt := 20) hx hb dX6_pump_16 (by decide) ?_
  refine lv_iconst (v := 1) hx hb dX6_pump_20 (by decide) ?_
  refine mc_i (mr_V (i := 10) (As := [.int 1, .int 1]) (rest := []) ⟨hx, hb, hml, hown, hts⟩ (zX6_start1 l D a cs N (by omega) _ 1 1 (by decide) (by decide)  _) (cwV 2 hts gX6_pump_X6_start rfl rfl rfl (by decide +kernel) ⟨Nat.le_of_ble_eq_true rfl, Nat.le_of_ble_eq_true rfl⟩) hK hN2 hw (by omega) mE_o kcX6 rfl hl.1 (Nat.le_of_ble_eq_true rfl) dX6_pump_21 ⟨Nat.le_of_ble_eq_true rfl, Nat.le_of_ble_eq_true rfl⟩) hw hA (fun H locs hw => ?_)
  obtain ⟨τ2, eτ2⟩ : ∃ zz : sS, m_thr σ 1 = zz := ⟨_, rfl⟩
  rw [eτ2] at hw
  refine lv_if_ne (tgt := 79) hx hb dX6_pump_24 (by decide) (fun c3 => ?_) (fun c3 => absurd c3 (by decide))
  refine lv_iconst (v := 0) hx hb dX6_pump_79 (by decide) ?_
  exact me_i hx hb hr hlocks hw (by rfl) (by subst eτ2; rfl) dX6_pump_80
set_option maxHeartbeats 4000000 in
set_option maxRecDepth 100000 in
theorem zX6_pump_2 (l : Launch) (D : va_G) (a : Nat → Nat) (cs : Nat → ClassId) (N : Nat) (hN : 12 ≤ N) (σ : sS) (k : Nat) (hk : k < 8) (y z : Int32) (hy : g_X6_isNoPond y = 1) : mMi l yX6_pump wsX6_pump ({ frames := 2, cells := 0, slots := 0, locals := 47 }) 0 0 D a cs N [.ref (a 10), .int (nI k), .int y, .int z] σ 0 (m_thr σ 1) := by
  intro sz
  refine Met.ofW (cc := cX6_pump) (maxL := 4) (ret := (some .int)) (by decide) rfl ?_
  intro p e s m args below meth c s₁ B hml hv
  obtain ⟨rfl, hsz, hv2⟩ := hv
  have hv3 : mB D a cs N σ sz s := ⟨hsz, hv2⟩
  subst hsz
  have hw := mH_start hv3
  obtain ⟨-, -, hK, -, hN2⟩ := hv3
  have hx := B.exec
  have hb := B.bytes
  have hr := B.returns
  have hts := atoms_spec (ws := wsX6_pump) B.pre
  have hown : s.vm.findClass RX6 = some m.cls := findClass_of_methodNamed B.named
  have hlocks := B.notSynchronized
  have hA : ∀ q : Nat, s.heap.size ≤ q → mA a N s.heap.size q := mA_new
  have hl := lv_entry ([.ref (a 10), .int (nI k), .int y, .int z]) (n := 4) (Nat.le_of_ble_eq_true rfl)
  rw [lg_entry_eq]
  generalize (lg_sl ([.ref (a 10), .int (nI k), .int y, .int z]) ++ List.replicate (4 - (lg_sl ([.ref (a 10), .int (nI k), .int y, .int z])).length) Slot.unset).toArray = ls at hl ⊢
  have hl : lv_has ls 4 [(0, .ref (a 10)), (1, .int (nI k)), (2, .int y), (3, .int z)] := hl
  refine lv_aload_n hx hb dX6_pump_0 rfl (lv_at hl 0 rfl) ?_
  refine lv_iload_n hx hb dX6_pump_1 rfl (lv_at hl 1 rfl) ?_
  refine mc_i (mr_S (As := [.int (nI k)]) (rest := [.ref (a 10)]) ⟨hx, hb, hml, hown, hts⟩ (zX6_isNoPond l D a cs N (by omega) _ (nI k) _) (va_cwS 1 hts gX6_pump_X6_isNoPond rfl rfl rfl (by decide +kernel) ⟨Nat.le_of_ble_eq_true rfl, Nat.le_of_ble_eq_true rfl⟩) hK hN2 hw rfl hl.1 (Nat.le_of_ble_eq_true rfl) dX6_pump_2 ⟨Nat.le_of_ble_eq_true rfl, Nat.le_of_ble_eq_true rfl⟩) hw hA (fun H locs hw => ?_)
  refine lv_if_ne (tgt := 15) hx hb dX6_pump_5 (by decide) (fun c1 => absurd (m_pond hk) c1) (fun c1 => ?_)
  refine lv_iload_n hx hb dX6_pump_8 rfl (lv_at hl 2 rfl) ?_
  refine mc_i (mr_S (As := [.int y]) (rest := [.ref (a 10)]) ⟨hx, hb, hml, hown, hts⟩ (zX6_isNoPond l D a cs N (by omega) _ y _) (va_cwS 1 hts gX6_pump_X6_isNoPond rfl rfl rfl (by decide +kernel) ⟨Nat.le_of_ble_eq_true rfl, Nat.le_of_ble_eq_true rfl⟩) hK hN2 hw rfl hl.1 (Nat.le_of_ble_eq_true rfl) dX6_pump_9 ⟨Nat.le_of_ble_eq_true rfl, Nat.le_of_ble_eq_true rfl⟩) hw hA (fun H locs hw => ?_)
  refine lv_if_eq (tgt := 19) hx hb dX6_pump_12 (by decide) (fun c2 => absurd c2 (by rw [hy]; decide)) (fun c2 => ?_)
  refine lv_iconst (v := 1) hx hb dX6_pump_15 (by decide) ?_
  refine lv_goto (tgt := 20) hx hb dX6_pump_16 (by decide) ?_
  refine lv_iconst (v := 1) hx hb dX6_pump_20 (by decide) ?_
  refine mc_i (mr_V (i := 10) (As := [.int 1, .int 1]) (rest := []) ⟨hx, hb, hml, hown, hts⟩ (zX6_start1 l D a cs N (by omega) _ 1 1 (by decide) (by decide)  _) (cwV 2 hts gX6_pump_X6_start rfl rfl rfl (by decide +kernel) ⟨Nat.le_of_ble_eq_true rfl, Nat.le_of_ble_eq_true rfl⟩) hK hN2 hw (by omega) mE_o kcX6 rfl hl.1 (Nat.le_of_ble_eq_true rfl) dX6_pump_21 ⟨Nat.le_of_ble_eq_true rfl, Nat.le_of_ble_eq_true rfl⟩) hw hA (fun H locs hw => ?_)
  obtain ⟨τ3, eτ3⟩ : ∃ zz : sS, m_thr σ 1 = zz := ⟨_, rfl⟩
  rw [eτ3] at hw
  refine lv_if_ne (tgt := 79) hx hb dX6_pump_24 (by decide) (fun c4 => ?_) (fun c4 => absurd c4 (by decide))
  refine lv_iconst (v := 0) hx hb dX6_pump_79 (by decide) ?_
  exact me_i hx hb hr hlocks hw (by rfl) (by subst eτ3; rfl) dX6_pump_80
set_option maxHeartbeats 4000000 in
set_option maxRecDepth 100000 in
theorem zX6_pump_3 (l : Launch) (D : va_G) (a : Nat → Nat) (cs : Nat → ClassId) (N : Nat) (hN : 12 ≤ N) (σ : sS) (k j : Nat) (hk : k < 8) (hj : j < 8) (z : Int32) (he : nI k = nI j) : mMi l yX6_pump wsX6_pump ({ frames := 2, cells := 0, slots := 0, locals := 47 }) 0 0 D a cs N [.ref (a 10), .int (nI k), .int (nI j), .int z] σ 0 (m_thr σ 2) := by
  intro sz
  refine Met.ofW (cc := cX6_pump) (maxL := 4) (ret := (some .int)) (by decide) rfl ?_
  intro p e s m args below meth c s₁ B hml hv
  obtain ⟨rfl, hsz, hv2⟩ := hv
  have hv3 : mB D a cs N σ sz s := ⟨hsz, hv2⟩
  subst hsz
  have hw := mH_start hv3
  obtain ⟨-, -, hK, -, hN2⟩ := hv3
  have hx := B.exec
  have hb := B.bytes
  have hr := B.returns
  have hts := atoms_spec (ws := wsX6_pump) B.pre
  have hown : s.vm.findClass RX6 = some m.cls := findClass_of_methodNamed B.named
  have hlocks := B.notSynchronized
  have hA : ∀ q : Nat, s.heap.size ≤ q → mA a N s.heap.size q := mA_new
  have hl := lv_entry ([.ref (a 10), .int (nI k), .int (nI j), .int z]) (n := 4) (Nat.le_of_ble_eq_true rfl)
  rw [lg_entry_eq]
  generalize (lg_sl ([.ref (a 10), .int (nI k), .int (nI j), .int z]) ++ List.replicate (4 - (lg_sl ([.ref (a 10), .int (nI k), .int (nI j), .int z])).length) Slot.unset).toArray = ls at hl ⊢
  have hl : lv_has ls 4 [(0, .ref (a 10)), (1, .int (nI k)), (2, .int (nI j)), (3, .int z)] := hl
  refine lv_aload_n hx hb dX6_pump_0 rfl (lv_at hl 0 rfl) ?_
  refine lv_iload_n hx hb dX6_pump_1 rfl (lv_at hl 1 rfl) ?_
  refine mc_i (mr_S (As := [.int (nI k)]) (rest := [.ref (a 10)]) ⟨hx, hb, hml, hown, hts⟩ (zX6_isNoPond l D a cs N (by omega) _ (nI k) _) (va_cwS 1 hts gX6_pump_X6_isNoPond rfl rfl rfl (by decide +kernel) ⟨Nat.le_of_ble_eq_true rfl, Nat.le_of_ble_eq_true rfl⟩) hK hN2 hw rfl hl.1 (Nat.le_of_ble_eq_true rfl) dX6_pump_2 ⟨Nat.le_of_ble_eq_true rfl, Nat.le_of_ble_eq_true rfl⟩) hw hA (fun H locs hw => ?_)
  refine lv_if_ne (tgt := 15) hx hb dX6_pump_5 (by decide) (fun c1 => absurd (m_pond hk) c1) (fun c1 => ?_)
  refine lv_iload_n hx hb dX6_pump_8 rfl (lv_at hl 2 rfl) ?_
  refine mc_i (mr_S (As := [.int (nI j)]) (rest := [.ref (a 10)]) ⟨hx, hb, hml, hown, hts⟩ (zX6_isNoPond l D a cs N (by omega) _ (nI j) _) (va_cwS 1 hts gX6_pump_X6_isNoPond rfl rfl rfl (by decide +kernel) ⟨Nat.le_of_ble_eq_true rfl, Nat.le_of_ble_eq_true rfl⟩) hK hN2 hw rfl hl.1 (Nat.le_of_ble_eq_true rfl) dX6_pump_9 ⟨Nat.le_of_ble_eq_true rfl, Nat.le_of_ble_eq_true rfl⟩) hw hA (fun H locs hw => ?_)
  refine lv_if_eq (tgt := 19) hx hb dX6_pump_12 (by decide) (fun c2 => ?_) (fun c2 => absurd (m_pond hj) c2)
  refine lv_iconst (v := 0) hx hb dX6_pump_19 (by decide) ?_
  refine lv_iconst (v := 1) hx hb dX6_pump_20 (by decide) ?_
  refine mc_i (mr_V (i := 10) (As := [.int 0, .int 1]) (rest := []) ⟨hx, hb, hml, hown, hts⟩ (zX6_start0 l D a cs N (by omega) _ 0 1 rfl  _) (cwV 2 hts gX6_pump_X6_start rfl rfl rfl (by decide +kernel) ⟨Nat.le_of_ble_eq_true rfl, Nat.le_of_ble_eq_true rfl⟩) hK hN2 hw (by omega) mE_o kcX6 rfl hl.1 (Nat.le_of_ble_eq_true rfl) dX6_pump_21 ⟨Nat.le_of_ble_eq_true rfl, Nat.le_of_ble_eq_true rfl⟩) hw hA (fun H locs hw => ?_)
  obtain ⟨τ3, eτ3⟩ : ∃ zz : sS, m_thr σ 0 = zz := ⟨_, rfl⟩
  rw [eτ3] at hw
  refine lv_if_ne (tgt := 79) hx hb dX6_pump_24 (by decide) (fun c4 => absurd (by decide) c4) (fun c4 => ?_)
  refine lv_aload_n hx hb dX6_pump_27 rfl (lv_at hl 0 rfl) ?_
  refine lv_iload_n hx hb dX6_pump_28 rfl (lv_at hl 1 rfl) ?_
  refine lv_iload_n hx hb dX6_pump_29 rfl (lv_at hl 2 rfl) ?_
  refine lv_icmp_eq (tgt := 38) hx hb dX6_pump_30 (by decide) (fun c5 => ?_) (fun c5 => absurd he c5)
  refine lv_iconst (v := 1) hx hb dX6_pump_38 (by decide) ?_
  refine lv_goto (tgt := 43) hx hb dX6_pump_39 (by decide) ?_
  refine lv_iconst (v := 2) hx hb dX6_pump_43 (by decide) ?_
  refine mc_i (mr_V (i := 10) (As := [.int 1, .int 2]) (rest := []) ⟨hx, hb, hml, hown, hts⟩ (zX6_refuse1 l D a cs N (by omega) _ 1 2 (by decide) (by decide) (by subst eτ3; rfl) _) (cwV 2 hts gX6_pump_X6_refuse rfl rfl rfl (by decide +kernel) ⟨Nat.le_of_ble_eq_true rfl, Nat.le_of_ble_eq_true rfl⟩) hK hN2 hw (by omega) mE_o kcX6 rfl hl.1 (Nat.le_of_ble_eq_true rfl) dX6_pump_44 ⟨Nat.le_of_ble_eq_true rfl, Nat.le_of_ble_eq_true rfl⟩) hw hA (fun H locs hw => ?_)
  obtain ⟨τ6, eτ6⟩ : ∃ zz : sS, m_thr τ3 2 = zz := ⟨_, rfl⟩
  rw [eτ6] at hw
  refine lv_if_ne (tgt := 79) hx hb dX6_pump_47 (by decide) (fun c7 => ?_) (fun c7 => absurd c7 (by decide))
  refine lv_iconst (v := 0) hx hb dX6_pump_79 (by decide) ?_
  exact me_i hx hb hr hlocks hw (by rfl) (by subst eτ6 eτ3; exact m_thr2 _ _ _) dX6_pump_80
set_option maxHeartbeats 4000000 in
set_option maxRecDepth 100000 in
theorem zX6_pump_4 (l : Launch) (D : va_G) (a : Nat → Nat) (cs : Nat → ClassId) (N : Nat) (hN : 12 ≤ N) (σ : sS) (k j : Nat) (hk : k < 8) (hj : j < 8) (z : Int32) (he : ¬ nI k = nI j) (hz1 : z < 1) : mMi l yX6_pump wsX6_pump ({ frames := 2, cells := 0, slots := 0, locals := 47 }) 0 0 D a cs N [.ref (a 10), .int (nI k), .int (nI j), .int z] σ 0 (m_thr σ 2) := by
  intro sz
  refine Met.ofW (cc := cX6_pump) (maxL := 4) (ret := (some .int)) (by decide) rfl ?_
  intro p e s m args below meth c s₁ B hml hv
  obtain ⟨rfl, hsz, hv2⟩ := hv
  have hv3 : mB D a cs N σ sz s := ⟨hsz, hv2⟩
  subst hsz
  have hw := mH_start hv3
  obtain ⟨-, -, hK, -, hN2⟩ := hv3
  have hx := B.exec
  have hb := B.bytes
  have hr := B.returns
  have hts := atoms_spec (ws := wsX6_pump) B.pre
  have hown : s.vm.findClass RX6 = some m.cls := findClass_of_methodNamed B.named
  have hlocks := B.notSynchronized
  have hA : ∀ q : Nat, s.heap.size ≤ q → mA a N s.heap.size q := mA_new
  have hl := lv_entry ([.ref (a 10), .int (nI k), .int (nI j), .int z]) (n := 4) (Nat.le_of_ble_eq_true rfl)
  rw [lg_entry_eq]
  generalize (lg_sl ([.ref (a 10), .int (nI k), .int (nI j), .int z]) ++ List.replicate (4 - (lg_sl ([.ref (a 10), .int (nI k), .int (nI j), .int z])).length) Slot.unset).toArray = ls at hl ⊢
  have hl : lv_has ls 4 [(0, .ref (a 10)), (1, .int (nI k)), (2, .int (nI j)), (3, .int z)] := hl
  refine lv_aload_n hx hb dX6_pump_0 rfl (lv_at hl 0 rfl) ?_
  refine lv_iload_n hx hb dX6_pump_1 rfl (lv_at hl 1 rfl) ?_
  refine mc_i (mr_S (As := [.int (nI k)]) (rest := [.ref (a 10)]) ⟨hx, hb, hml, hown, hts⟩ (zX6_isNoPond l D a cs N (by omega) _ (nI k) _) (va_cwS 1 hts gX6_pump_X6_isNoPond rfl rfl rfl (by decide +kernel) ⟨Nat.le_of_ble_eq_true rfl, Nat.le_of_ble_eq_true rfl⟩) hK hN2 hw rfl hl.1 (Nat.le_of_ble_eq_true rfl) dX6_pump_2 ⟨Nat.le_of_ble_eq_true rfl, Nat.le_of_ble_eq_true rfl⟩) hw hA (fun H locs hw => ?_)
  refine lv_if_ne (tgt := 15) hx hb dX6_pump_5 (by decide) (fun c1 => absurd (m_pond hk) c1) (fun c1 => ?_)
  refine lv_iload_n hx hb dX6_pump_8 rfl (lv_at hl 2 rfl) ?_
  refine mc_i (mr_S (As := [.int (nI j)]) (rest := [.ref (a 10)]) ⟨hx, hb, hml, hown, hts⟩ (zX6_isNoPond l D a cs N (by omega) _ (nI j) _) (va_cwS 1 hts gX6_pump_X6_isNoPond rfl rfl rfl (by decide +kernel) ⟨Nat.le_of_ble_eq_true rfl, Nat.le_of_ble_eq_true rfl⟩) hK hN2 hw rfl hl.1 (Nat.le_of_ble_eq_true rfl) dX6_pump_9 ⟨Nat.le_of_ble_eq_true rfl, Nat.le_of_ble_eq_true rfl⟩) hw hA (fun H locs hw => ?_)
  refine lv_if_eq (tgt := 19) hx hb dX6_pump_12 (by decide) (fun c2 => ?_) (fun c2 => absurd (m_pond hj) c2)
  refine lv_iconst (v := 0) hx hb dX6_pump_19 (by decide) ?_
  refine lv_iconst (v := 1) hx hb dX6_pump_20 (by decide) ?_
  refine mc_i (mr_V (i := 10) (As := [.int 0, .int 1]) (rest := []) ⟨hx, hb, hml, hown, hts⟩ (zX6_start0 l D a cs N (by omega) _ 0 1 rfl  _) (cwV 2 hts gX6_pump_X6_start rfl rfl rfl (by decide +kernel) ⟨Nat.le_of_ble_eq_true rfl, Nat.le_of_ble_eq_true rfl⟩) hK hN2 hw (by omega) mE_o kcX6 rfl hl.1 (Nat.le_of_ble_eq_true rfl) dX6_pump_21 ⟨Nat.le_of_ble_eq_true rfl, Nat.le_of_ble_eq_true rfl⟩) hw hA (fun H locs hw => ?_)
  obtain ⟨τ3, eτ3⟩ : ∃ zz : sS, m_thr σ 0 = zz := ⟨_, rfl⟩
  rw [eτ3] at hw
  refine lv_if_ne (tgt := 79) hx hb dX6_pump_24 (by decide) (fun c4 => absurd (by decide) c4) (fun c4 => ?_)
  refine lv_aload_n hx hb dX6_pump_27 rfl (lv_at hl 0 rfl) ?_
  refine lv_iload_n hx hb dX6_pump_28 rfl (lv_at hl 1 rfl) ?_
  refine lv_iload_n hx hb dX6_pump_29 rfl (lv_at hl 2 rfl) ?_
  refine lv_icmp_eq (tgt := 38) hx hb dX6_pump_30 (by decide) (fun c5 => absurd c5 he) (fun c5 => ?_)
  refine lv_iload_n hx hb dX6_pump_33 rfl (lv_at hl 3 rfl) ?_
  refine lv_iconst (v := 1) hx hb dX6_pump_34 (by decide) ?_
  refine lv_icmp_ge (tgt := 42) hx hb dX6_pump_35 (by decide) (fun c6 => absurd c6 (Int32.not_le.mpr hz1)) (fun c6 => ?_)
  refine lv_iconst (v := 1) hx hb dX6_pump_38 (by decide) ?_
  refine lv_goto (tgt := 43) hx hb dX6_pump_39 (by decide) ?_
  refine lv_iconst (v := 2) hx hb dX6_pump_43 (by decide) ?_
  refine mc_i (mr_V (i := 10) (As := [.int 1, .int 2]) (rest := []) ⟨hx, hb, hml, hown, hts⟩ (zX6_refuse1 l D a cs N (by omega) _ 1 2 (by decide) (by decide) (by subst eτ3; rfl) _) (cwV 2 hts gX6_pump_X6_refuse rfl rfl rfl (by decide +kernel) ⟨Nat.le_of_ble_eq_true rfl, Nat.le_of_ble_eq_true rfl⟩) hK hN2 hw (by omega) mE_o kcX6 rfl hl.1 (Nat.le_of_ble_eq_true rfl) dX6_pump_44 ⟨Nat.le_of_ble_eq_true rfl, Nat.le_of_ble_eq_true rfl⟩) hw hA (fun H locs hw => ?_)
  obtain ⟨τ7, eτ7⟩ : ∃ zz : sS, m_thr τ3 2 = zz := ⟨_, rfl⟩
  rw [eτ7] at hw
  refine lv_if_ne (tgt := 79) hx hb dX6_pump_47 (by decide) (fun c8 => ?_) (fun c8 => absurd c8 (by decide))
  refine lv_iconst (v := 0) hx hb dX6_pump_79 (by decide) ?_
  exact me_i hx hb hr hlocks hw (by rfl) (by subst eτ7 eτ3; exact m_thr2 _ _ _) dX6_pump_80
theorem mX6_pump_0_5 : (Cond.fieldLink RX6 18 "SaltRowModel" "row" "LSaltRowModel$Row;") ∈ wsX6_pump := by decide +kernel
theorem iX6_pump_X6_5 : ∀ w ∈ wsX60, w ∈ wsX6_pump := by decide +kernel
theorem mX6_pump_2_5 : (Cond.fieldLink RX6 57 "SaltRowModel$Row" "ponds" "[LSaltRowModel$Pond;") ∈ wsX6_pump := by decide +kernel
theorem iX6_pump_X5_5 : ∀ w ∈ wsX50, w ∈ wsX6_pump := by decide +kernel
theorem mX6_pump_4_5 : (Cond.fieldLink RX6 91 "SaltRowModel$Pond" "brine" "I") ∈ wsX6_pump := by decide +kernel
theorem iX6_pump_X4_5 : ∀ w ∈ wsX40, w ∈ wsX6_pump := by decide +kernel
set_option maxHeartbeats 4000000 in
set_option maxRecDepth 100000 in
theorem zX6_pump_5 (l : Launch) (D : va_G) (a : Nat → Nat) (cs : Nat → ClassId) (N : Nat) (hN : 12 ≤ N) (σ : sS) (k j : Nat) (hk : k < 8) (hj : j < 8) (z : Int32) (he : ¬ nI k = nI j) (hz1 : 1 ≤ z) (hz2 : σ (2 + k) 1 < z) : mMi l yX6_pump wsX6_pump ({ frames := 2, cells := 0, slots := 0, locals := 47 }) 0 0 D a cs N [.ref (a 10), .int (nI k), .int (nI j), .int z] σ 0 (m_thr σ 3) := by
  intro sz
  refine Met.ofW (cc := cX6_pump) (maxL := 4) (ret := (some .int)) (by decide) rfl ?_
  intro p e s m args below meth c s₁ B hml hv
  obtain ⟨rfl, hsz, hv2⟩ := hv
  have hv3 : mB D a cs N σ sz s := ⟨hsz, hv2⟩
  subst hsz
  have hw := mH_start hv3
  obtain ⟨-, -, hK, -, hN2⟩ := hv3
  have hx := B.exec
  have hb := B.bytes
  have hr := B.returns
  have hts := atoms_spec (ws := wsX6_pump) B.pre
  have hown : s.vm.findClass RX6 = some m.cls := findClass_of_methodNamed B.named
  have hlocks := B.notSynchronized
  have hA : ∀ q : Nat, s.heap.size ≤ q → mA a N s.heap.size q := mA_new
  have hl := lv_entry ([.ref (a 10), .int (nI k), .int (nI j), .int z]) (n := 4) (Nat.le_of_ble_eq_true rfl)
  rw [lg_entry_eq]
  generalize (lg_sl ([.ref (a 10), .int (nI k), .int (nI j), .int z]) ++ List.replicate (4 - (lg_sl ([.ref (a 10), .int (nI k), .int (nI j), .int z])).length) Slot.unset).toArray = ls at hl ⊢
  have hl : lv_has ls 4 [(0, .ref (a 10)), (1, .int (nI k)), (2, .int (nI j)), (3, .int z)] := hl
  refine lv_aload_n hx hb dX6_pump_0 rfl (lv_at hl 0 rfl) ?_
  refine lv_iload_n hx hb dX6_pump_1 rfl (lv_at hl 1 rfl) ?_
  refine mc_i (mr_S (As := [.int (nI k)]) (rest := [.ref (a 10)]) ⟨hx, hb, hml, hown, hts⟩ (zX6_isNoPond l D a cs N (by omega) _ (nI k) _) (va_cwS 1 hts gX6_pump_X6_isNoPond rfl rfl rfl (by decide +kernel) ⟨Nat.le_of_ble_eq_true rfl, Nat.le_of_ble_eq_true rfl⟩) hK hN2 hw rfl hl.1 (Nat.le_of_ble_eq_true rfl) dX6_pump_2 ⟨Nat.le_of_ble_eq_true rfl, Nat.le_of_ble_eq_true rfl⟩) hw hA (fun H locs hw => ?_)
  refine lv_if_ne (tgt := 15) hx hb dX6_pump_5 (by decide) (fun c1 => absurd (m_pond hk) c1) (fun c1 => ?_)
  refine lv_iload_n hx hb dX6_pump_8 rfl (lv_at hl 2 rfl) ?_
  refine mc_i (mr_S (As := [.int (nI j)]) (rest := [.ref (a 10)]) ⟨hx, hb, hml, hown, hts⟩ (zX6_isNoPond l D a cs N (by omega) _ (nI j) _) (va_cwS 1 hts gX6_pump_X6_isNoPond rfl rfl rfl (by decide +kernel) ⟨Nat.le_of_ble_eq_true rfl, Nat.le_of_ble_eq_true rfl⟩) hK hN2 hw rfl hl.1 (Nat.le_of_ble_eq_true rfl) dX6_pump_9 ⟨Nat.le_of_ble_eq_true rfl, Nat.le_of_ble_eq_true rfl⟩) hw hA (fun H locs hw => ?_)
  refine lv_if_eq (tgt := 19) hx hb dX6_pump_12 (by decide) (fun c2 => ?_) (fun c2 => absurd (m_pond hj) c2)
  refine lv_iconst (v := 0) hx hb dX6_pump_19 (by decide) ?_
  refine lv_iconst (v := 1) hx hb dX6_pump_20 (by decide) ?_
  refine mc_i (mr_V (i := 10) (As := [.int 0, .int 1]) (rest := []) ⟨hx, hb, hml, hown, hts⟩ (zX6_start0 l D a cs N (by omega) _ 0 1 rfl  _) (cwV 2 hts gX6_pump_X6_start rfl rfl rfl (by decide +kernel) ⟨Nat.le_of_ble_eq_true rfl, Nat.le_of_ble_eq_true rfl⟩) hK hN2 hw (by omega) mE_o kcX6 rfl hl.1 (Nat.le_of_ble_eq_true rfl) dX6_pump_21 ⟨Nat.le_of_ble_eq_true rfl, Nat.le_of_ble_eq_true rfl⟩) hw hA (fun H locs hw => ?_)
  obtain ⟨τ3, eτ3⟩ : ∃ zz : sS, m_thr σ 0 = zz := ⟨_, rfl⟩
  rw [eτ3] at hw
  refine lv_if_ne (tgt := 79) hx hb dX6_pump_24 (by decide) (fun c4 => absurd (by decide) c4) (fun c4 => ?_)
  refine lv_aload_n hx hb dX6_pump_27 rfl (lv_at hl 0 rfl) ?_
  refine lv_iload_n hx hb dX6_pump_28 rfl (lv_at hl 1 rfl) ?_
  refine lv_iload_n hx hb dX6_pump_29 rfl (lv_at hl 2 rfl) ?_
  refine lv_icmp_eq (tgt := 38) hx hb dX6_pump_30 (by decide) (fun c5 => absurd c5 he) (fun c5 => ?_)
  refine lv_iload_n hx hb dX6_pump_33 rfl (lv_at hl 3 rfl) ?_
  refine lv_iconst (v := 1) hx hb dX6_pump_34 (by decide) ?_
  refine lv_icmp_ge (tgt := 42) hx hb dX6_pump_35 (by decide) (fun c6 => ?_) (fun c6 => absurd hz1 c6)
  refine lv_iconst (v := 0) hx hb dX6_pump_42 (by decide) ?_
  refine lv_iconst (v := 2) hx hb dX6_pump_43 (by decide) ?_
  refine mc_i (mr_V (i := 10) (As := [.int 0, .int 2]) (rest := []) ⟨hx, hb, hml, hown, hts⟩ (zX6_refuse0 l D a cs N (by omega) _ 0 2 rfl (by subst eτ3; rfl) _) (cwV 2 hts gX6_pump_X6_refuse rfl rfl rfl (by decide +kernel) ⟨Nat.le_of_ble_eq_true rfl, Nat.le_of_ble_eq_true rfl⟩) hK hN2 hw (by omega) mE_o kcX6 rfl hl.1 (Nat.le_of_ble_eq_true rfl) dX6_pump_44 ⟨Nat.le_of_ble_eq_true rfl, Nat.le_of_ble_eq_true rfl⟩) hw hA (fun H locs hw => ?_)
  refine lv_if_ne (tgt := 79) hx hb dX6_pump_47 (by decide) (fun c7 => absurd (by decide) c7) (fun c7 => ?_)
  refine lv_aload_n hx hb dX6_pump_50 rfl (lv_at hl 0 rfl) ?_
  refine lv_aload_n hx hb dX6_pump_51 rfl (lv_at hl 0 rfl) ?_
  refine mg_o1 hx hb hts iX6_pump_X6_5 hown hK hw (by omega) (hts _ mX6_pump_0_5) dX6_pump_52 ?_
  refine mg_rq hx hb hts iX6_pump_X5_5 hown hK hw (by omega) (hts _ mX6_pump_2_5) dX6_pump_55 ?_
  refine lv_iload_n hx hb dX6_pump_58 rfl (lv_at hl 1 rfl) ?_
  refine mg_q (k := k) hx hb hK hw (by omega) (by omega) rfl dX6_pump_59 ?_
  refine mg_p hx hb hts iX6_pump_X4_5 hown hK hw (by omega) (by omega) 1 (by decide) (hts _ mX6_pump_4_5) dX6_pump_60 ?_
  refine lv_iload_n hx hb dX6_pump_63 rfl (lv_at hl 3 rfl) ?_
  refine lv_icmp_ge (tgt := 71) hx hb dX6_pump_64 (by decide) (fun c8 => absurd c8 (by subst eτ3; rw [m_thr_ne (by omega)]; exact Int32.not_le.mpr hz2)) (fun c8 => ?_)
  refine lv_iconst (v := 1) hx hb dX6_pump_67 (by decide) ?_
  refine lv_goto (tgt := 72) hx hb dX6_pump_68 (by decide) ?_
  refine lv_iconst (v := 3) hx hb dX6_pump_72 (by decide) ?_
  refine mc_i (mr_V (i := 10) (As := [.int 1, .int 3]) (rest := []) ⟨hx, hb, hml, hown, hts⟩ (zX6_refuse1 l D a cs N (by omega) _ 1 3 (by decide) (by decide) (by subst eτ3; rfl) _) (cwV 2 hts gX6_pump_X6_refuse rfl rfl rfl (by decide +kernel) ⟨Nat.le_of_ble_eq_true rfl, Nat.le_of_ble_eq_true rfl⟩) hK hN2 hw (by omega) mE_o kcX6 rfl hl.1 (Nat.le_of_ble_eq_true rfl) dX6_pump_73 ⟨Nat.le_of_ble_eq_true rfl, Nat.le_of_ble_eq_true rfl⟩) hw hA (fun H locs hw => ?_)
  obtain ⟨τ9, eτ9⟩ : ∃ zz : sS, m_thr τ3 3 = zz := ⟨_, rfl⟩
  rw [eτ9] at hw
  refine lv_if_eq (tgt := 81) hx hb dX6_pump_76 (by decide) (fun c10 => absurd c10 (by decide)) (fun c10 => ?_)
  refine lv_iconst (v := 0) hx hb dX6_pump_79 (by decide) ?_
  exact me_i hx hb hr hlocks hw (by rfl) (by subst eτ9 eτ3; exact m_thr2 _ _ _) dX6_pump_80
theorem mX6_canHarvest_0 : (Cond.fieldLink RX6 18 "SaltRowModel" "row" "LSaltRowModel$Row;") ∈ wsX6_canHarvest := by decide +kernel
theorem iX6_canHarvest_X6 : ∀ w ∈ wsX60, w ∈ wsX6_canHarvest := by decide +kernel
theorem mX6_canHarvest_2 : (Cond.fieldLink RX6 57 "SaltRowModel$Row" "ponds" "[LSaltRowModel$Pond;") ∈ wsX6_canHarvest := by decide +kernel
theorem iX6_canHarvest_X5 : ∀ w ∈ wsX50, w ∈ wsX6_canHarvest := by decide +kernel
theorem mX6_canHarvest_4 : (Cond.fieldLink RX6 156 "SaltRowModel$Pond" "crust" "I") ∈ wsX6_canHarvest := by decide +kernel
theorem iX6_canHarvest_X4 : ∀ w ∈ wsX40, w ∈ wsX6_canHarvest := by decide +kernel
theorem mX6_canHarvest_6 : (Cond.fieldLink RX6 166 "SaltRowModel$Pond" "harvested" "I") ∈ wsX6_canHarvest := by decide +kernel
theorem mX6_canHarvest_7 : (Cond.fieldLink RX6 54 "SaltRowModel$Row" "day" "I") ∈ wsX6_canHarvest := by decide +kernel
set_option maxHeartbeats 4000000 in
set_option maxRecDepth 100000 in
theorem zX6_canHarvest (l : Launch) (D : va_G) (a : Nat → Nat) (cs : Nat → ClassId) (N : Nat) (hN : 12 ≤ N) (σ : sS) (q : Nat) (hq : q < 3)  : mMi l yX6_canHarvest wsX6_canHarvest ({ frames := 0, cells := 0, slots := 0, locals := 0 }) 0 0 D a cs N [.ref (a 10), .int (nI (5 + q))] σ (g_X6_canHarvest σ (2 + (5 + q))) σ := by
  intro sz
  refine Met.ofW (cc := cX6_canHarvest) (maxL := 2) (ret := (some .boolean)) (by decide) rfl ?_
  intro p e s m args below meth c s₁ B hml hv
  obtain ⟨rfl, hsz, hv2⟩ := hv
  have hv3 : mB D a cs N σ sz s := ⟨hsz, hv2⟩
  subst hsz
  have hw := mH_start hv3
  obtain ⟨-, -, hK, -, hN2⟩ := hv3
  have hx := B.exec
  have hb := B.bytes
  have hr := B.returns
  have hts := atoms_spec (ws := wsX6_canHarvest) B.pre
  have hown : s.vm.findClass RX6 = some m.cls := findClass_of_methodNamed B.named
  have hlocks := B.notSynchronized
  have hA : ∀ q : Nat, s.heap.size ≤ q → mA a N s.heap.size q := mA_new
  have hl := lv_entry ([.ref (a 10), .int (nI (5 + q))]) (n := 2) (Nat.le_of_ble_eq_true rfl)
  rw [lg_entry_eq]
  generalize (lg_sl ([.ref (a 10), .int (nI (5 + q))]) ++ List.replicate (2 - (lg_sl ([.ref (a 10), .int (nI (5 + q))])).length) Slot.unset).toArray = ls at hl ⊢
  have hl : lv_has ls 2 [(0, .ref (a 10)), (1, .int (nI (5 + q)))] := hl
  refine lv_aload_n hx hb dX6_canHarvest_0 rfl (lv_at hl 0 rfl) ?_
  refine mg_o1 hx hb hts iX6_canHarvest_X6 hown hK hw (by omega) (hts _ mX6_canHarvest_0) dX6_canHarvest_1 ?_
  refine mg_rq hx hb hts iX6_canHarvest_X5 hown hK hw (by omega) (hts _ mX6_canHarvest_2) dX6_canHarvest_4 ?_
  refine lv_iload_n hx hb dX6_canHarvest_7 rfl (lv_at hl 1 rfl) ?_
  refine mg_q (k := (5 + q)) hx hb hK hw (by omega) (by omega) rfl dX6_canHarvest_8 ?_
  refine mg_p hx hb hts iX6_canHarvest_X4 hown hK hw (by omega) (by omega) 6 (by decide) (hts _ mX6_canHarvest_4) dX6_canHarvest_9 ?_
  refine lv_if_le (tgt := 41) hx hb dX6_canHarvest_12 (by decide) (fun c1 => ?_) (fun c1 => ?_)
  · refine lv_iconst (v := 0) hx hb dX6_canHarvest_41 (by decide) ?_
    exact me_z hx hb hr hlocks hw (Or.inl rfl) (by unfold g_X6_canHarvest; rw [if_pos c1] <;> rfl) (by rfl) dX6_canHarvest_42
  · refine lv_aload_n hx hb dX6_canHarvest_15 rfl (lv_at hl 0 rfl) ?_
    refine mg_o1 hx hb hts iX6_canHarvest_X6 hown hK hw (by omega) (hts _ mX6_canHarvest_0) dX6_canHarvest_16 ?_
    refine mg_rq hx hb hts iX6_canHarvest_X5 hown hK hw (by omega) (hts _ mX6_canHarvest_2) dX6_canHarvest_19 ?_
    refine lv_iload_n hx hb dX6_canHarvest_22 rfl (lv_at hl 1 rfl) ?_
    refine mg_q (k := (5 + q)) hx hb hK hw (by omega) (by omega) rfl dX6_canHarvest_23 ?_
    refine mg_p hx hb hts iX6_canHarvest_X4 hown hK hw (by omega) (by omega) 10 (by decide) (hts _ mX6_canHarvest_6) dX6_canHarvest_24 ?_
    refine lv_aload_n hx hb dX6_canHarvest_27 rfl (lv_at hl 0 rfl) ?_
    refine mg_o1 hx hb hts iX6_canHarvest_X6 hown hK hw (by omega) (hts _ mX6_canHarvest_0) dX6_canHarvest_28 ?_
    refine mg_r hx hb hts iX6_canHarvest_X5 hown hK hw (by omega) 1 (by decide) (hts _ mX6_canHarvest_7) dX6_canHarvest_31 ?_
    refine lv_icmp_eq (tgt := 41) hx hb dX6_canHarvest_34 (by decide) (fun c2 => ?_) (fun c2 => ?_)
    · refine lv_iconst (v := 0) hx hb dX6_canHarvest_41 (by decide) ?_
      exact me_z hx hb hr hlocks hw (Or.inl rfl) (by unfold g_X6_canHarvest; rw [if_neg c1, if_pos c2] <;> rfl) (by rfl) dX6_canHarvest_42
    · refine lv_iconst (v := 1) hx hb dX6_canHarvest_37 (by decide) ?_
      refine lv_goto (tgt := 42) hx hb dX6_canHarvest_38 (by decide) ?_
      exact me_z hx hb hr hlocks hw (Or.inr rfl) (by unfold g_X6_canHarvest; rw [if_neg c1, if_neg c2] <;> rfl) (by rfl) dX6_canHarvest_42
set_option maxHeartbeats 4000000 in
set_option maxRecDepth 100000 in
theorem zX6_harvest_1 (l : Launch) (D : va_G) (a : Nat → Nat) (cs : Nat → ClassId) (N : Nat) (hN : 12 ≤ N) (σ : sS) (p0 y : Int32) (hp : g_X6_isNoPan p0 = 1) : mMi l yX6_harvest wsX6_harvest ({ frames := 4, cells := 0, slots := 0, locals := 82 }) 0 0 D a cs N [.ref (a 10), .int p0, .int y] σ 0 (m_thr σ 1) := by
  intro sz
  refine Met.ofW (cc := cX6_harvest) (maxL := 5) (ret := (some .int)) (by decide) rfl ?_
  intro p e s m args below meth c s₁ B hml hv
  obtain ⟨rfl, hsz, hv2⟩ := hv
  have hv3 : mB D a cs N σ sz s := ⟨hsz, hv2⟩
  subst hsz
  have hw := mH_start hv3
  obtain ⟨-, -, hK, -, hN2⟩ := hv3
  have hx := B.exec
  have hb := B.bytes
  have hr := B.returns
  have hts := atoms_spec (ws := wsX6_harvest) B.pre
  have hown : s.vm.findClass RX6 = some m.cls := findClass_of_methodNamed B.named
  have hlocks := B.notSynchronized
  have hA : ∀ q : Nat, s.heap.size ≤ q → mA a N s.heap.size q := mA_new
  have hl := lv_entry ([.ref (a 10), .int p0, .int y]) (n := 5) (Nat.le_of_ble_eq_true rfl)
  rw [lg_entry_eq]
  generalize (lg_sl ([.ref (a 10), .int p0, .int y]) ++ List.replicate (5 - (lg_sl ([.ref (a 10), .int p0, .int y])).length) Slot.unset).toArray = ls at hl ⊢
  have hl : lv_has ls 5 [(0, .ref (a 10)), (1, .int p0), (2, .int y)] := hl
  refine lv_aload_n hx hb dX6_harvest_0 rfl (lv_at hl 0 rfl) ?_
  refine lv_iload_n hx hb dX6_harvest_1 rfl (lv_at hl 1 rfl) ?_
  refine mc_i (mr_S (As := [.int p0]) (rest := [.ref (a 10)]) ⟨hx, hb, hml, hown, hts⟩ (zX6_isNoPan l D a cs N (by omega) _ p0 _) (va_cwS 1 hts gX6_harvest_X6_isNoPan rfl rfl rfl (by decide +kernel) ⟨Nat.le_of_ble_eq_true rfl, Nat.le_of_ble_eq_true rfl⟩) hK hN2 hw rfl hl.1 (Nat.le_of_ble_eq_true rfl) dX6_harvest_2 ⟨Nat.le_of_ble_eq_true rfl, Nat.le_of_ble_eq_true rfl⟩) hw hA (fun H locs hw => ?_)
  refine lv_iconst (v := 1) hx hb dX6_harvest_5 (by decide) ?_
  refine mc_i (mr_V (i := 10) (As := [.int (g_X6_isNoPan p0), .int 1]) (rest := []) ⟨hx, hb, hml, hown, hts⟩ (zX6_start1 l D a cs N (by omega) _ (g_X6_isNoPan p0) 1 (by rw [hp]; decide) (by decide)  _) (cwV 2 hts gX6_harvest_X6_start rfl rfl rfl (by decide +kernel) ⟨Nat.le_of_ble_eq_true rfl, Nat.le_of_ble_eq_true rfl⟩) hK hN2 hw (by omega) mE_o kcX6 rfl hl.1 (Nat.le_of_ble_eq_true rfl) dX6_harvest_6 ⟨Nat.le_of_ble_eq_true rfl, Nat.le_of_ble_eq_true rfl⟩) hw hA (fun H locs hw => ?_)
  obtain ⟨τ1, eτ1⟩ : ∃ zz : sS, m_thr σ 1 = zz := ⟨_, rfl⟩
  rw [eτ1] at hw
  refine lv_if_ne (tgt := 33) hx hb dX6_harvest_9 (by decide) (fun c2 => ?_) (fun c2 => absurd c2 (by decide))
  refine lv_iconst (v := 0) hx hb dX6_harvest_33 (by decide) ?_
  exact me_i hx hb hr hlocks hw (by rfl) (by subst eτ1; rfl) dX6_harvest_34
set_option maxHeartbeats 4000000 in
set_option maxRecDepth 100000 in
theorem zX6_harvest_2 (l : Launch) (D : va_G) (a : Nat → Nat) (cs : Nat → ClassId) (N : Nat) (hN : 12 ≤ N) (σ : sS) (q : Nat) (hq : q < 3) (y : Int32) (hc : g_X6_canHarvest σ (2 + (5 + q)) = 0) : mMi l yX6_harvest wsX6_harvest ({ frames := 4, cells := 0, slots := 0, locals := 82 }) 0 0 D a cs N [.ref (a 10), .int (nI (5 + q)), .int y] σ 0 (m_thr σ 2) := by
  intro sz
  refine Met.ofW (cc := cX6_harvest) (maxL := 5) (ret := (some .int)) (by decide) rfl ?_
  intro p e s m args below meth c s₁ B hml hv
  obtain ⟨rfl, hsz, hv2⟩ := hv
  have hv3 : mB D a cs N σ sz s := ⟨hsz, hv2⟩
  subst hsz
  have hw := mH_start hv3
  obtain ⟨-, -, hK, -, hN2⟩ := hv3
  have hx := B.exec
  have hb := B.bytes
  have hr := B.returns
  have hts := atoms_spec (ws := wsX6_harvest) B.pre
  have hown : s.vm.findClass RX6 = some m.cls := findClass_of_methodNamed B.named
  have hlocks := B.notSynchronized
  have hA : ∀ q : Nat, s.heap.size ≤ q → mA a N s.heap.size q := mA_new
  have hl := lv_entry ([.ref (a 10), .int (nI (5 + q)), .int y]) (n := 5) (Nat.le_of_ble_eq_true rfl)
  rw [lg_entry_eq]
  generalize (lg_sl ([.ref (a 10), .int (nI (5 + q)), .int y]) ++ List.replicate (5 - (lg_sl ([.ref (a 10), .int (nI (5 + q)), .int y])).length) Slot.unset).toArray = ls at hl ⊢
  have hl : lv_has ls 5 [(0, .ref (a 10)), (1, .int (nI (5 + q))), (2, .int y)] := hl
  refine lv_aload_n hx hb dX6_harvest_0 rfl (lv_at hl 0 rfl) ?_
  refine lv_iload_n hx hb dX6_harvest_1 rfl (lv_at hl 1 rfl) ?_
  refine mc_i (mr_S (As := [.int (nI (5 + q))]) (rest := [.ref (a 10)]) ⟨hx, hb, hml, hown, hts⟩ (zX6_isNoPan l D a cs N (by omega) _ (nI (5 + q)) _) (va_cwS 1 hts gX6_harvest_X6_isNoPan rfl rfl rfl (by decide +kernel) ⟨Nat.le_of_ble_eq_true rfl, Nat.le_of_ble_eq_true rfl⟩) hK hN2 hw rfl hl.1 (Nat.le_of_ble_eq_true rfl) dX6_harvest_2 ⟨Nat.le_of_ble_eq_true rfl, Nat.le_of_ble_eq_true rfl⟩) hw hA (fun H locs hw => ?_)
  refine lv_iconst (v := 1) hx hb dX6_harvest_5 (by decide) ?_
  refine mc_i (mr_V (i := 10) (As := [.int (g_X6_isNoPan (nI (5 + q))), .int 1]) (rest := []) ⟨hx, hb, hml, hown, hts⟩ (zX6_start0 l D a cs N (by omega) _ (g_X6_isNoPan (nI (5 + q))) 1 (m_pan hq)  _) (cwV 2 hts gX6_harvest_X6_start rfl rfl rfl (by decide +kernel) ⟨Nat.le_of_ble_eq_true rfl, Nat.le_of_ble_eq_true rfl⟩) hK hN2 hw (by omega) mE_o kcX6 rfl hl.1 (Nat.le_of_ble_eq_true rfl) dX6_harvest_6 ⟨Nat.le_of_ble_eq_true rfl, Nat.le_of_ble_eq_true rfl⟩) hw hA (fun H locs hw => ?_)
  obtain ⟨τ1, eτ1⟩ : ∃ zz : sS, m_thr σ 0 = zz := ⟨_, rfl⟩
  rw [eτ1] at hw
  refine lv_if_ne (tgt := 33) hx hb dX6_harvest_9 (by decide) (fun c2 => absurd (by decide) c2) (fun c2 => ?_)
  refine lv_aload_n hx hb dX6_harvest_12 rfl (lv_at hl 0 rfl) ?_
  refine lv_aload_n hx hb dX6_harvest_13 rfl (lv_at hl 0 rfl) ?_
  refine lv_iload_n hx hb dX6_harvest_14 rfl (lv_at hl 1 rfl) ?_
  refine mc_i (mr_V (i := 10) (As := [.int (nI (5 + q))]) (rest := [.ref (a 10)]) ⟨hx, hb, hml, hown, hts⟩ (zX6_canHarvest l D a cs N (by omega) _ q hq _) (cwV 1 hts gX6_harvest_X6_canHarvest rfl rfl rfl (by decide +kernel) ⟨Nat.le_of_ble_eq_true rfl, Nat.le_of_ble_eq_true rfl⟩) hK hN2 hw (by omega) mE_o kcX6 rfl hl.1 (Nat.le_of_ble_eq_true rfl) dX6_harvest_15 ⟨Nat.le_of_ble_eq_true rfl, Nat.le_of_ble_eq_true rfl⟩) hw hA (fun H locs hw => ?_)
  refine lv_if_ne (tgt := 25) hx hb dX6_harvest_18 (by decide) (fun c3 => absurd (by subst eτ1; unfold g_X6_canHarvest; rw [m_thr_ne (by omega), m_thr_ne (by omega)]; exact hc) c3) (fun c3 => ?_)
  refine lv_iconst (v := 1) hx hb dX6_harvest_21 (by decide) ?_
  refine lv_goto (tgt := 26) hx hb dX6_harvest_22 (by decide) ?_
  refine lv_iconst (v := 2) hx hb dX6_harvest_26 (by decide) ?_
  refine mc_i (mr_V (i := 10) (As := [.int 1, .int 2]) (rest := []) ⟨hx, hb, hml, hown, hts⟩ (zX6_refuse1 l D a cs N (by omega) _ 1 2 (by decide) (by decide) (by subst eτ1; rfl) _) (cwV 2 hts gX6_harvest_X6_refuse rfl rfl rfl (by decide +kernel) ⟨Nat.le_of_ble_eq_true rfl, Nat.le_of_ble_eq_true rfl⟩) hK hN2 hw (by omega) mE_o kcX6 rfl hl.1 (Nat.le_of_ble_eq_true rfl) dX6_harvest_27 ⟨Nat.le_of_ble_eq_true rfl, Nat.le_of_ble_eq_true rfl⟩) hw hA (fun H locs hw => ?_)
  obtain ⟨τ4, eτ4⟩ : ∃ zz : sS, m_thr τ1 2 = zz := ⟨_, rfl⟩
  rw [eτ4] at hw
  refine lv_if_eq (tgt := 35) hx hb dX6_harvest_30 (by decide) (fun c5 => absurd c5 (by decide)) (fun c5 => ?_)
  refine lv_iconst (v := 0) hx hb dX6_harvest_33 (by decide) ?_
  exact me_i hx hb hr hlocks hw (by rfl) (by subst eτ4 eτ1; exact m_thr2 _ _ _) dX6_harvest_34
set_option maxHeartbeats 4000000 in
set_option maxRecDepth 100000 in
theorem zX6_flower_1 (l : Launch) (D : va_G) (a : Nat → Nat) (cs : Nat → ClassId) (N : Nat) (hN : 12 ≤ N) (σ : sS) (p0 : Int32) (hp : g_X6_isNoPan p0 = 1) : mMi l yX6_flower wsX6_flower ({ frames := 4, cells := 0, slots := 0, locals := 82 }) 0 0 D a cs N [.ref (a 10), .int p0] σ 0 (m_thr σ 1) := by
  intro sz
  refine Met.ofW (cc := cX6_flower) (maxL := 4) (ret := (some .int)) (by decide) rfl ?_
  intro p e s m args below meth c s₁ B hml hv
  obtain ⟨rfl, hsz, hv2⟩ := hv
  have hv3 : mB D a cs N σ sz s := ⟨hsz, hv2⟩
  subst hsz
  have hw := mH_start hv3
  obtain ⟨-, -, hK, -, hN2⟩ := hv3
  have hx := B.exec
  have hb := B.bytes
  have hr := B.returns
  have hts := atoms_spec (ws := wsX6_flower) B.pre
  have hown : s.vm.findClass RX6 = some m.cls := findClass_of_methodNamed B.named
  have hlocks := B.notSynchronized
  have hA : ∀ q : Nat, s.heap.size ≤ q → mA a N s.heap.size q := mA_new
  have hl := lv_entry ([.ref (a 10), .int p0]) (n := 4) (Nat.le_of_ble_eq_true rfl)
  rw [lg_entry_eq]
  generalize (lg_sl ([.ref (a 10), .int p0]) ++ List.replicate (4 - (lg_sl ([.ref (a 10), .int p0])).length) Slot.unset).toArray = ls at hl ⊢
  have hl : lv_has ls 4 [(0, .ref (a 10)), (1, .int p0)] := hl
  refine lv_aload_n hx hb dX6_flower_0 rfl (lv_at hl 0 rfl) ?_
  refine lv_iload_n hx hb dX6_flower_1 rfl (lv_at hl 1 rfl) ?_
  refine mc_i (mr_S (As := [.int p0]) (rest := [.ref (a 10)]) ⟨hx, hb, hml, hown, hts⟩ (zX6_isNoPan l D a cs N (by omega) _ p0 _) (va_cwS 1 hts gX6_flower_X6_isNoPan rfl rfl rfl (by decide +kernel) ⟨Nat.le_of_ble_eq_true rfl, Nat.le_of_ble_eq_true rfl⟩) hK hN2 hw rfl hl.1 (Nat.le_of_ble_eq_true rfl) dX6_flower_2 ⟨Nat.le_of_ble_eq_true rfl, Nat.le_of_ble_eq_true rfl⟩) hw hA (fun H locs hw => ?_)
  refine lv_iconst (v := 1) hx hb dX6_flower_5 (by decide) ?_
  refine mc_i (mr_V (i := 10) (As := [.int (g_X6_isNoPan p0), .int 1]) (rest := []) ⟨hx, hb, hml, hown, hts⟩ (zX6_start1 l D a cs N (by omega) _ (g_X6_isNoPan p0) 1 (by rw [hp]; decide) (by decide)  _) (cwV 2 hts gX6_flower_X6_start rfl rfl rfl (by decide +kernel) ⟨Nat.le_of_ble_eq_true rfl, Nat.le_of_ble_eq_true rfl⟩) hK hN2 hw (by omega) mE_o kcX6 rfl hl.1 (Nat.le_of_ble_eq_true rfl) dX6_flower_6 ⟨Nat.le_of_ble_eq_true rfl, Nat.le_of_ble_eq_true rfl⟩) hw hA (fun H locs hw => ?_)
  obtain ⟨τ1, eτ1⟩ : ∃ zz : sS, m_thr σ 1 = zz := ⟨_, rfl⟩
  rw [eτ1] at hw
  refine lv_if_eq (tgt := 14) hx hb dX6_flower_9 (by decide) (fun c2 => absurd c2 (by decide)) (fun c2 => ?_)
  refine lv_iconst (v := 0) hx hb dX6_flower_12 (by decide) ?_
  exact me_i hx hb hr hlocks hw (by rfl) (by subst eτ1; rfl) dX6_flower_13
theorem mX6_flower_0_2 : (Cond.fieldLink RX6 18 "SaltRowModel" "row" "LSaltRowModel$Row;") ∈ wsX6_flower := by decide +kernel
theorem iX6_flower_X6_2 : ∀ w ∈ wsX60, w ∈ wsX6_flower := by decide +kernel
theorem mX6_flower_2_2 : (Cond.fieldLink RX6 57 "SaltRowModel$Row" "ponds" "[LSaltRowModel$Pond;") ∈ wsX6_flower := by decide +kernel
theorem iX6_flower_X5_2 : ∀ w ∈ wsX50, w ∈ wsX6_flower := by decide +kernel
theorem mX6_flower_4_2 : (Cond.fieldLink RX6 79 "SaltRowModel" "sun" "I") ∈ wsX6_flower := by decide +kernel
set_option maxHeartbeats 4000000 in
set_option maxRecDepth 100000 in
theorem zX6_flower_2 (l : Launch) (D : va_G) (a : Nat → Nat) (cs : Nat → ClassId) (N : Nat) (hN : 12 ≤ N) (σ : sS) (q : Nat) (hq : q < 3) (hs : σ 10 3 < 6) : mMi l yX6_flower wsX6_flower ({ frames := 4, cells := 0, slots := 0, locals := 82 }) 0 0 D a cs N [.ref (a 10), .int (nI (5 + q))] σ 0 (m_thr σ 2) := by
  intro sz
  refine Met.ofW (cc := cX6_flower) (maxL := 4) (ret := (some .int)) (by decide) rfl ?_
  intro p e s m args below meth c s₁ B hml hv
  obtain ⟨rfl, hsz, hv2⟩ := hv
  have hv3 : mB D a cs N σ sz s := ⟨hsz, hv2⟩
  subst hsz
  have hw := mH_start hv3
  obtain ⟨-, -, hK, -, hN2⟩ := hv3
  have hx := B.exec
  have hb := B.bytes
  have hr := B.returns
  have hts := atoms_spec (ws := wsX6_flower) B.pre
  have hown : s.vm.findClass RX6 = some m.cls := findClass_of_methodNamed B.named
  have hlocks := B.notSynchronized
  have hA : ∀ q : Nat, s.heap.size ≤ q → mA a N s.heap.size q := mA_new
  have hl := lv_entry ([.ref (a 10), .int (nI (5 + q))]) (n := 4) (Nat.le_of_ble_eq_true rfl)
  rw [lg_entry_eq]
  generalize (lg_sl ([.ref (a 10), .int (nI (5 + q))]) ++ List.replicate (4 - (lg_sl ([.ref (a 10), .int (nI (5 + q))])).length) Slot.unset).toArray = ls at hl ⊢
  have hl : lv_has ls 4 [(0, .ref (a 10)), (1, .int (nI (5 + q)))] := hl
  refine lv_aload_n hx hb dX6_flower_0 rfl (lv_at hl 0 rfl) ?_
  refine lv_iload_n hx hb dX6_flower_1 rfl (lv_at hl 1 rfl) ?_
  refine mc_i (mr_S (As := [.int (nI (5 + q))]) (rest := [.ref (a 10)]) ⟨hx, hb, hml, hown, hts⟩ (zX6_isNoPan l D a cs N (by omega) _ (nI (5 + q)) _) (va_cwS 1 hts gX6_flower_X6_isNoPan rfl rfl rfl (by decide +kernel) ⟨Nat.le_of_ble_eq_true rfl, Nat.le_of_ble_eq_true rfl⟩) hK hN2 hw rfl hl.1 (Nat.le_of_ble_eq_true rfl) dX6_flower_2 ⟨Nat.le_of_ble_eq_true rfl, Nat.le_of_ble_eq_true rfl⟩) hw hA (fun H locs hw => ?_)
  refine lv_iconst (v := 1) hx hb dX6_flower_5 (by decide) ?_
  refine mc_i (mr_V (i := 10) (As := [.int (g_X6_isNoPan (nI (5 + q))), .int 1]) (rest := []) ⟨hx, hb, hml, hown, hts⟩ (zX6_start0 l D a cs N (by omega) _ (g_X6_isNoPan (nI (5 + q))) 1 (m_pan hq)  _) (cwV 2 hts gX6_flower_X6_start rfl rfl rfl (by decide +kernel) ⟨Nat.le_of_ble_eq_true rfl, Nat.le_of_ble_eq_true rfl⟩) hK hN2 hw (by omega) mE_o kcX6 rfl hl.1 (Nat.le_of_ble_eq_true rfl) dX6_flower_6 ⟨Nat.le_of_ble_eq_true rfl, Nat.le_of_ble_eq_true rfl⟩) hw hA (fun H locs hw => ?_)
  obtain ⟨τ1, eτ1⟩ : ∃ zz : sS, m_thr σ 0 = zz := ⟨_, rfl⟩
  rw [eτ1] at hw
  refine lv_if_eq (tgt := 14) hx hb dX6_flower_9 (by decide) (fun c2 => ?_) (fun c2 => absurd (by decide) c2)
  refine lv_aload_n hx hb dX6_flower_14 rfl (lv_at hl 0 rfl) ?_
  refine mg_o1 hx hb hts iX6_flower_X6_2 hown hK hw (by omega) (hts _ mX6_flower_0_2) dX6_flower_15 ?_
  refine mg_rq hx hb hts iX6_flower_X5_2 hown hK hw (by omega) (hts _ mX6_flower_2_2) dX6_flower_18 ?_
  refine lv_iload_n hx hb dX6_flower_21 rfl (lv_at hl 1 rfl) ?_
  refine mg_q (k := (5 + q)) hx hb hK hw (by omega) (by omega) rfl dX6_flower_22 ?_
  refine lv_astore_n (lv' := [(2, .ref (a (2 + (5 + q)))), (0, .ref (a 10)), (1, .int (nI (5 + q)))]) hx hb dX6_flower_23 rfl hl (by decide) rfl (fun ls hl => ?_)
  refine lv_aload_n hx hb dX6_flower_24 rfl (lv_at hl 1 rfl) ?_
  refine lv_aload_n hx hb dX6_flower_25 rfl (lv_at hl 1 rfl) ?_
  refine mg_o hx hb hts iX6_flower_X6_2 hown hK hw (by omega) 3 (by decide) (hts _ mX6_flower_4_2) dX6_flower_26 ?_
  refine lv_bipush (v := 6) hx hb dX6_flower_29 (by decide) ?_
  refine lv_icmp_lt (tgt := 65) hx hb dX6_flower_31 (by decide) (fun c3 => ?_) (fun c3 => absurd (by subst eτ1; exact hs) c3)
  refine lv_iconst (v := 1) hx hb dX6_flower_65 (by decide) ?_
  refine lv_goto (tgt := 70) hx hb dX6_flower_66 (by decide) ?_
  refine lv_iconst (v := 2) hx hb dX6_flower_70 (by decide) ?_
  refine mc_i (mr_V (i := 10) (As := [.int 1, .int 2]) (rest := []) ⟨hx, hb, hml, hown, hts⟩ (zX6_refuse1 l D a cs N (by omega) _ 1 2 (by decide) (by decide) (by subst eτ1; rfl) _) (cwV 2 hts gX6_flower_X6_refuse rfl rfl rfl (by decide +kernel) ⟨Nat.le_of_ble_eq_true rfl, Nat.le_of_ble_eq_true rfl⟩) hK hN2 hw (by omega) mE_o kcX6 rfl hl.1 (Nat.le_of_ble_eq_true rfl) dX6_flower_71 ⟨Nat.le_of_ble_eq_true rfl, Nat.le_of_ble_eq_true rfl⟩) hw hA (fun H locs hw => ?_)
  obtain ⟨τ4, eτ4⟩ : ∃ zz : sS, m_thr τ1 2 = zz := ⟨_, rfl⟩
  rw [eτ4] at hw
  refine lv_if_eq (tgt := 79) hx hb dX6_flower_74 (by decide) (fun c5 => absurd c5 (by decide)) (fun c5 => ?_)
  refine lv_iconst (v := 0) hx hb dX6_flower_77 (by decide) ?_
  exact me_i hx hb hr hlocks hw (by rfl) (by subst eτ4 eτ1; exact m_thr2 _ _ _) dX6_flower_78
theorem mX6_toldOfPond_0 : (Cond.fieldLink RX6 18 "SaltRowModel" "row" "LSaltRowModel$Row;") ∈ wsX6_toldOfPond := by decide +kernel
theorem iX6_toldOfPond_X6 : ∀ w ∈ wsX60, w ∈ wsX6_toldOfPond := by decide +kernel
theorem mX6_toldOfPond_2 : (Cond.fieldLink RX6 57 "SaltRowModel$Row" "ponds" "[LSaltRowModel$Pond;") ∈ wsX6_toldOfPond := by decide +kernel
theorem iX6_toldOfPond_X5 : ∀ w ∈ wsX50, w ∈ wsX6_toldOfPond := by decide +kernel
theorem mX6_toldOfPond_4 : (Cond.arrayClass .int) ∈ wsX6_toldOfPond := by decide +kernel
theorem mX6_toldOfPond_5 : (Cond.fieldLink RX6 61 "SaltRowModel$Pond" "area" "I") ∈ wsX6_toldOfPond := by decide +kernel
theorem iX6_toldOfPond_X4 : ∀ w ∈ wsX40, w ∈ wsX6_toldOfPond := by decide +kernel
theorem mX6_toldOfPond_7 : (Cond.fieldLink RX6 91 "SaltRowModel$Pond" "brine" "I") ∈ wsX6_toldOfPond := by decide +kernel
theorem mX6_toldOfPond_8 : (Cond.fieldLink RX6 100 "SaltRowModel$Pond" "salt" "I") ∈ wsX6_toldOfPond := by decide +kernel
theorem mX6_toldOfPond_9 : (Cond.fieldLink RX6 103 "SaltRowModel$Pond" "gypsum" "I") ∈ wsX6_toldOfPond := by decide +kernel
theorem mX6_toldOfPond_10 : (Cond.fieldLink RX6 106 "SaltRowModel$Pond" "bitter" "I") ∈ wsX6_toldOfPond := by decide +kernel
theorem mX6_toldOfPond_11 : (Cond.fieldLink RX6 85 "SaltRowModel$Pond" "fresh" "I") ∈ wsX6_toldOfPond := by decide +kernel
theorem mX6_toldOfPond_12 : (Cond.fieldLink RX6 156 "SaltRowModel$Pond" "crust" "I") ∈ wsX6_toldOfPond := by decide +kernel
theorem mX6_toldOfPond_13 : (Cond.fieldLink RX6 163 "SaltRowModel$Pond" "dirt" "I") ∈ wsX6_toldOfPond := by decide +kernel
theorem mX6_toldOfPond_14 : (Cond.fieldLink RX6 166 "SaltRowModel$Pond" "harvested" "I") ∈ wsX6_toldOfPond := by decide +kernel
theorem mX6_toldOfPond_15 : (Cond.fieldLink RX6 54 "SaltRowModel$Row" "day" "I") ∈ wsX6_toldOfPond := by decide +kernel
set_option maxHeartbeats 4000000 in
set_option maxRecDepth 100000 in
theorem zX6_toldOfPond (l : Launch) (D : va_G) (a : Nat → Nat) (cs : Nat → ClassId) (N : Nat) (hN : 12 ≤ N) (σ : sS) (k : Nat) (hk : k < 8) (w : Nat) (hw11 : w < 11) (har : ¬ σ (2 + k) 0 = 0) (hh : ¬ σ (2 + k) 10 = σ 0 1) : mMi l yX6_toldOfPond wsX6_toldOfPond ({ frames := 2, cells := 1, slots := 11, locals := 45 }) 1 11 D a cs N [.ref (a 10), .int (nI k), .int (nI w)] σ (g_tell (σ (2 + k)) w) σ := by
  intro sz
  refine Met.ofW (cc := cX6_toldOfPond) (maxL := 5) (ret := (some .int)) (by decide) rfl ?_
  intro p e s m args below meth c s₁ B hml hv
  obtain ⟨rfl, hsz, hv2⟩ := hv
  have hv3 : mB D a cs N σ sz s := ⟨hsz, hv2⟩
  subst hsz
  have hw := mH_start hv3
  obtain ⟨-, -, hK, -, hN2⟩ := hv3
  have hx := B.exec
  have hb := B.bytes
  have hr := B.returns
  have hts := atoms_spec (ws := wsX6_toldOfPond) B.pre
  have hown : s.vm.findClass RX6 = some m.cls := findClass_of_methodNamed B.named
  have hlocks := B.notSynchronized
  have hA : ∀ q : Nat, s.heap.size ≤ q → mA a N s.heap.size q := mA_new
  have hl := lv_entry ([.ref (a 10), .int (nI k), .int (nI w)]) (n := 5) (Nat.le_of_ble_eq_true rfl)
  rw [lg_entry_eq]
  generalize (lg_sl ([.ref (a 10), .int (nI k), .int (nI w)]) ++ List.replicate (5 - (lg_sl ([.ref (a 10), .int (nI k), .int (nI w)])).length) Slot.unset).toArray = ls at hl ⊢
  have hl : lv_has ls 5 [(0, .ref (a 10)), (1, .int (nI k)), (2, .int (nI w))] := hl
  refine lv_aload_n hx hb dX6_toldOfPond_0 rfl (lv_at hl 0 rfl) ?_
  refine mg_o1 hx hb hts iX6_toldOfPond_X6 hown hK hw (by omega) (hts _ mX6_toldOfPond_0) dX6_toldOfPond_1 ?_
  refine mg_rq hx hb hts iX6_toldOfPond_X5 hown hK hw (by omega) (hts _ mX6_toldOfPond_2) dX6_toldOfPond_4 ?_
  refine lv_iload_n hx hb dX6_toldOfPond_7 rfl (lv_at hl 1 rfl) ?_
  refine mg_q (k := k) hx hb hK hw (by omega) (by omega) rfl dX6_toldOfPond_8 ?_
  refine lv_astore_n (lv' := [(3, .ref (a (2 + k))), (0, .ref (a 10)), (1, .int (nI k)), (2, .int (nI w))]) hx hb dX6_toldOfPond_9 rfl hl (by decide) rfl (fun ls hl => ?_)
  refine lv_bipush (v := 11) hx hb dX6_toldOfPond_10 (by decide) ?_
  refine mx_new (n := 11) hx hb (hts _ mX6_toldOfPond_4) hK hw hA (by decide) rfl (Nat.le_of_ble_eq_true rfl) (Nat.le_of_ble_eq_true rfl) dX6_toldOfPond_12 (fun q1 H hw => ?_)
  refine lv_dup hx hb dX6_toldOfPond_14 rfl ?_
  refine lv_iconst (v := 0) hx hb dX6_toldOfPond_15 (by decide) ?_
  refine lv_aload_n hx hb dX6_toldOfPond_16 rfl (lv_at hl 0 rfl) ?_
  refine mg_p hx hb hts iX6_toldOfPond_X4 hown hK hw (by omega) (by omega) 0 (by decide) (hts _ mX6_toldOfPond_5) dX6_toldOfPond_17 ?_
  refine mx_st (n := 11) (k := 0) (f := (fun _ => 0)) hx hb hK hw 0 rfl (by decide) (by decide) rfl dX6_toldOfPond_20 (fun H locs hw => ?_)
  have hw : mH D a cs N (mA a N s.heap.size) s.heap σ ([(q1, .inl (cs 1, 11, .inl (upd (fun _ => 0) 0 (σ (2 + k) 0))))]) H locs := hw
  refine lv_dup hx hb dX6_toldOfPond_21 rfl ?_
  refine lv_iconst (v := 1) hx hb dX6_toldOfPond_22 (by decide) ?_
  refine lv_aload_n hx hb dX6_toldOfPond_23 rfl (lv_at hl 0 rfl) ?_
  refine mg_p hx hb hts iX6_toldOfPond_X4 hown hK hw (by omega) (by omega) 1 (by decide) (hts _ mX6_toldOfPond_7) dX6_toldOfPond_24 ?_
  refine mx_st (n := 11) (k := 1) (f := (upd (fun _ => 0) 0 (σ (2 + k) 0))) hx hb hK hw 0 rfl (by decide) (by decide) rfl dX6_toldOfPond_27 (fun H locs hw => ?_)
  have hw : mH D a cs N (mA a N s.heap.size) s.heap σ ([(q1, .inl (cs 1, 11, .inl (upd (upd (fun _ => 0) 0 (σ (2 + k) 0)) 1 (σ (2 + k) 1))))]) H locs := hw
  refine lv_dup hx hb dX6_toldOfPond_28 rfl ?_
  refine lv_iconst (v := 2) hx hb dX6_toldOfPond_29 (by decide) ?_
  refine lv_aload_n hx hb dX6_toldOfPond_30 rfl (lv_at hl 0 rfl) ?_
  refine mg_p hx hb hts iX6_toldOfPond_X4 hown hK hw (by omega) (by omega) 2 (by decide) (hts _ mX6_toldOfPond_8) dX6_toldOfPond_31 ?_
  refine mx_st (n := 11) (k := 2) (f := (upd (upd (fun _ => 0) 0 (σ (2 + k) 0)) 1 (σ (2 + k) 1))) hx hb hK hw 0 rfl (by decide) (by decide) rfl dX6_toldOfPond_34 (fun H locs hw => ?_)
  have hw : mH D a cs N (mA a N s.heap.size) s.heap σ ([(q1, .inl (cs 1, 11, .inl (upd (upd (upd (fun _ => 0) 0 (σ (2 + k) 0)) 1 (σ (2 + k) 1)) 2 (σ (2 + k) 2))))]) H locs := hw
  refine lv_dup hx hb dX6_toldOfPond_35 rfl ?_
  refine lv_iconst (v := 3) hx hb dX6_toldOfPond_36 (by decide) ?_
  refine lv_aload_n hx hb dX6_toldOfPond_37 rfl (lv_at hl 0 rfl) ?_
  refine mg_p hx hb hts iX6_toldOfPond_X4 hown hK hw (by omega) (by omega) 3 (by decide) (hts _ mX6_toldOfPond_9) dX6_toldOfPond_38 ?_
  refine mx_st (n := 11) (k := 3) (f := (upd (upd (upd (fun _ => 0) 0 (σ (2 + k) 0)) 1 (σ (2 + k) 1)) 2 (σ (2 + k) 2))) hx hb hK hw 0 rfl (by decide) (by decide) rfl dX6_toldOfPond_41 (fun H locs hw => ?_)
  have hw : mH D a cs N (mA a N s.heap.size) s.heap σ ([(q1, .inl (cs 1, 11, .inl (upd (upd (upd (upd (fun _ => 0) 0 (σ (2 + k) 0)) 1 (σ (2 + k) 1)) 2 (σ (2 + k) 2)) 3 (σ (2 + k) 3))))]) H locs := hw
  refine lv_dup hx hb dX6_toldOfPond_42 rfl ?_
  refine lv_iconst (v := 4) hx hb dX6_toldOfPond_43 (by decide) ?_
  refine lv_aload_n hx hb dX6_toldOfPond_44 rfl (lv_at hl 0 rfl) ?_
  refine mg_p hx hb hts iX6_toldOfPond_X4 hown hK hw (by omega) (by omega) 4 (by decide) (hts _ mX6_toldOfPond_10) dX6_toldOfPond_45 ?_
  refine mx_st (n := 11) (k := 4) (f := (upd (upd (upd (upd (fun _ => 0) 0 (σ (2 + k) 0)) 1 (σ (2 + k) 1)) 2 (σ (2 + k) 2)) 3 (σ (2 + k) 3))) hx hb hK hw 0 rfl (by decide) (by decide) rfl dX6_toldOfPond_48 (fun H locs hw => ?_)
  have hw : mH D a cs N (mA a N s.heap.size) s.heap σ ([(q1, .inl (cs 1, 11, .inl (upd (upd (upd (upd (upd (fun _ => 0) 0 (σ (2 + k) 0)) 1 (σ (2 + k) 1)) 2 (σ (2 + k) 2)) 3 (σ (2 + k) 3)) 4 (σ (2 + k) 4))))]) H locs := hw
  refine lv_dup hx hb dX6_toldOfPond_49 rfl ?_
  refine lv_iconst (v := 5) hx hb dX6_toldOfPond_50 (by decide) ?_
  refine lv_aload_n hx hb dX6_toldOfPond_51 rfl (lv_at hl 0 rfl) ?_
  refine mg_p hx hb hts iX6_toldOfPond_X4 hown hK hw (by omega) (by omega) 5 (by decide) (hts _ mX6_toldOfPond_11) dX6_toldOfPond_52 ?_
  refine mx_st (n := 11) (k := 5) (f := (upd (upd (upd (upd (upd (fun _ => 0) 0 (σ (2 + k) 0)) 1 (σ (2 + k) 1)) 2 (σ (2 + k) 2)) 3 (σ (2 + k) 3)) 4 (σ (2 + k) 4))) hx hb hK hw 0 rfl (by decide) (by decide) rfl dX6_toldOfPond_55 (fun H locs hw => ?_)
  have hw : mH D a cs N (mA a N s.heap.size) s.heap σ ([(q1, .inl (cs 1, 11, .inl (upd (upd (upd (upd (upd (upd (fun _ => 0) 0 (σ (2 + k) 0)) 1 (σ (2 + k) 1)) 2 (σ (2 + k) 2)) 3 (σ (2 + k) 3)) 4 (σ (2 + k) 4)) 5 (σ (2 + k) 5))))]) H locs := hw
  refine lv_dup hx hb dX6_toldOfPond_56 rfl ?_
  refine lv_bipush (v := 6) hx hb dX6_toldOfPond_57 (by decide) ?_
  refine lv_aload_n hx hb dX6_toldOfPond_59 rfl (lv_at hl 0 rfl) ?_
  refine mg_p hx hb hts iX6_toldOfPond_X4 hown hK hw (by omega) (by omega) 6 (by decide) (hts _ mX6_toldOfPond_12) dX6_toldOfPond_60 ?_
  refine mx_st (n := 11) (k := 6) (f := (upd (upd (upd (upd (upd (upd (fun _ => 0) 0 (σ (2 + k) 0)) 1 (σ (2 + k) 1)) 2 (σ (2 + k) 2)) 3 (σ (2 + k) 3)) 4 (σ (2 + k) 4)) 5 (σ (2 + k) 5))) hx hb hK hw 0 rfl (by decide) (by decide) rfl dX6_toldOfPond_63 (fun H locs hw => ?_)
  have hw : mH D a cs N (mA a N s.heap.size) s.heap σ ([(q1, .inl (cs 1, 11, .inl (upd (upd (upd (upd (upd (upd (upd (fun _ => 0) 0 (σ (2 + k) 0)) 1 (σ (2 + k) 1)) 2 (σ (2 + k) 2)) 3 (σ (2 + k) 3)) 4 (σ (2 + k) 4)) 5 (σ (2 + k) 5)) 6 (σ (2 + k) 6))))]) H locs := hw
  refine lv_dup hx hb dX6_toldOfPond_64 rfl ?_
  refine lv_bipush (v := 7) hx hb dX6_toldOfPond_65 (by decide) ?_
  refine lv_aload_n hx hb dX6_toldOfPond_67 rfl (lv_at hl 0 rfl) ?_
  refine mg_p hx hb hts iX6_toldOfPond_X4 hown hK hw (by omega) (by omega) 7 (by decide) (hts _ mX6_toldOfPond_13) dX6_toldOfPond_68 ?_
  refine mx_st (n := 11) (k := 7) (f := (upd (upd (upd (upd (upd (upd (upd (fun _ => 0) 0 (σ (2 + k) 0)) 1 (σ (2 + k) 1)) 2 (σ (2 + k) 2)) 3 (σ (2 + k) 3)) 4 (σ (2 + k) 4)) 5 (σ (2 + k) 5)) 6 (σ (2 + k) 6))) hx hb hK hw 0 rfl (by decide) (by decide) rfl dX6_toldOfPond_71 (fun H locs hw => ?_)
  have hw : mH D a cs N (mA a N s.heap.size) s.heap σ ([(q1, .inl (cs 1, 11, .inl (upd (upd (upd (upd (upd (upd (upd (upd (fun _ => 0) 0 (σ (2 + k) 0)) 1 (σ (2 + k) 1)) 2 (σ (2 + k) 2)) 3 (σ (2 + k) 3)) 4 (σ (2 + k) 4)) 5 (σ (2 + k) 5)) 6 (σ (2 + k) 6)) 7 (σ (2 + k) 7))))]) H locs := hw
  refine lv_dup hx hb dX6_toldOfPond_72 rfl ?_
  refine lv_bipush (v := 8) hx hb dX6_toldOfPond_73 (by decide) ?_
  refine lv_aload_n hx hb dX6_toldOfPond_75 rfl (lv_at hl 0 rfl) ?_
  have hw := mH_foc (i := 2 + k) hw
  refine mc_i (mr_V (i := 2 + k) (As := []) (rest := [.int 8, .ref q1, .ref q1]) ⟨hx, hb, hml, hown, hts⟩ (zX4_level l D a cs N (by omega) _ (2 + k) (by omega) _ (by exact har) _) (cwV 0 hts gX6_toldOfPond_X4_level rfl rfl rfl (by decide +kernel) ⟨Nat.le_of_ble_eq_true rfl, Nat.le_of_ble_eq_true rfl⟩) hK hN2 hw (by omega) (mE_p (by omega)) kcX4 rfl hl.1 (Nat.le_of_ble_eq_true rfl) dX6_toldOfPond_76 ⟨Nat.le_of_ble_eq_true rfl, Nat.le_of_ble_eq_true rfl⟩) hw hA (fun H locs hw => ?_)
  have hw := mH_unf hw
  refine mx_st (n := 11) (k := 8) (f := (upd (upd (upd (upd (upd (upd (upd (upd (fun _ => 0) 0 (σ (2 + k) 0)) 1 (σ (2 + k) 1)) 2 (σ (2 + k) 2)) 3 (σ (2 + k) 3)) 4 (σ (2 + k) 4)) 5 (σ (2 + k) 5)) 6 (σ (2 + k) 6)) 7 (σ (2 + k) 7))) hx hb hK hw 0 rfl (by decide) (by decide) rfl dX6_toldOfPond_79 (fun H locs hw => ?_)
  have hw : mH D a cs N (mA a N s.heap.size) s.heap σ ([(q1, .inl (cs 1, 11, .inl (upd (upd (upd (upd (upd (upd (upd (upd (upd (fun _ => 0) 0 (σ (2 + k) 0)) 1 (σ (2 + k) 1)) 2 (σ (2 + k) 2)) 3 (σ (2 + k) 3)) 4 (σ (2 + k) 4)) 5 (σ (2 + k) 5)) 6 (σ (2 + k) 6)) 7 (σ (2 + k) 7)) 8 (g_X4_level (σ (2 + k))))))]) H locs := hw
  refine lv_dup hx hb dX6_toldOfPond_80 rfl ?_
  refine lv_bipush (v := 9) hx hb dX6_toldOfPond_81 (by decide) ?_
  refine lv_aload_n hx hb dX6_toldOfPond_83 rfl (lv_at hl 0 rfl) ?_
  have hw := mH_foc (i := 2 + k) hw
  refine mc_i (mr_V (i := 2 + k) (As := []) (rest := [.int 9, .ref q1, .ref q1]) ⟨hx, hb, hml, hown, hts⟩ (zX4_strength l D a cs N (by omega) _ (2 + k) (by omega) _ _) (cwV 0 hts gX6_toldOfPond_X4_strength rfl rfl rfl (by decide +kernel) ⟨Nat.le_of_ble_eq_true rfl, Nat.le_of_ble_eq_true rfl⟩) hK hN2 hw (by omega) (mE_p (by omega)) kcX4 rfl hl.1 (Nat.le_of_ble_eq_true rfl) dX6_toldOfPond_84 ⟨Nat.le_of_ble_eq_true rfl, Nat.le_of_ble_eq_true rfl⟩) hw hA (fun H locs hw => ?_)
  have hw := mH_unf hw
  refine lw_topi (fun x2 ex2 => ?_)
  refine mx_st (n := 11) (k := 9) (f := (upd (upd (upd (upd (upd (upd (upd (upd (upd (fun _ => 0) 0 (σ (2 + k) 0)) 1 (σ (2 + k) 1)) 2 (σ (2 + k) 2)) 3 (σ (2 + k) 3)) 4 (σ (2 + k) 4)) 5 (σ (2 + k) 5)) 6 (σ (2 + k) 6)) 7 (σ (2 + k) 7)) 8 (g_X4_level (σ (2 + k))))) hx hb hK hw 0 rfl (by decide) (by decide) rfl dX6_toldOfPond_87 (fun H locs hw => ?_)
  have hw : mH D a cs N (mA a N s.heap.size) s.heap σ ([(q1, .inl (cs 1, 11, .inl (upd (upd (upd (upd (upd (upd (upd (upd (upd (upd (fun _ => 0) 0 (σ (2 + k) 0)) 1 (σ (2 + k) 1)) 2 (σ (2 + k) 2)) 3 (σ (2 + k) 3)) 4 (σ (2 + k) 4)) 5 (σ (2 + k) 5)) 6 (σ (2 + k) 6)) 7 (σ (2 + k) 7)) 8 (g_X4_level (σ (2 + k)))) 9 x2)))]) H locs := hw
  refine lv_dup hx hb dX6_toldOfPond_88 rfl ?_
  refine lv_bipush (v := 10) hx hb dX6_toldOfPond_89 (by decide) ?_
  refine lv_aload_n hx hb dX6_toldOfPond_91 rfl (lv_at hl 0 rfl) ?_
  refine mg_p hx hb hts iX6_toldOfPond_X4 hown hK hw (by omega) (by omega) 10 (by decide) (hts _ mX6_toldOfPond_14) dX6_toldOfPond_92 ?_
  refine lv_aload_n hx hb dX6_toldOfPond_95 rfl (lv_at hl 1 rfl) ?_
  refine mg_o1 hx hb hts iX6_toldOfPond_X6 hown hK hw (by omega) (hts _ mX6_toldOfPond_0) dX6_toldOfPond_96 ?_
  refine mg_r hx hb hts iX6_toldOfPond_X5 hown hK hw (by omega) 1 (by decide) (hts _ mX6_toldOfPond_15) dX6_toldOfPond_99 ?_
  refine lv_icmp_ne (tgt := 109) hx hb dX6_toldOfPond_102 (by decide) (fun c3 => ?_) (fun c3 => absurd c3 hh)
  refine lv_iconst (v := 0) hx hb dX6_toldOfPond_109 (by decide) ?_
  refine mc_i (mr_S (As := [.int 0]) (rest := [.int 10, .ref q1, .ref q1]) ⟨hx, hb, hml, hown, hts⟩ (zX6_one l D a cs N (by omega) _ 0 _) (va_cwS 1 hts gX6_toldOfPond_X6_one rfl rfl rfl (by decide +kernel) ⟨Nat.le_of_ble_eq_true rfl, Nat.le_of_ble_eq_true rfl⟩) hK hN2 hw rfl hl.1 (Nat.le_of_ble_eq_true rfl) dX6_toldOfPond_110 ⟨Nat.le_of_ble_eq_true rfl, Nat.le_of_ble_eq_true rfl⟩) hw hA (fun H locs hw => ?_)
  refine mx_st (n := 11) (k := 10) (f := (upd (upd (upd (upd (upd (upd (upd (upd (upd (upd (fun _ => 0) 0 (σ (2 + k) 0)) 1 (σ (2 + k) 1)) 2 (σ (2 + k) 2)) 3 (σ (2 + k) 3)) 4 (σ (2 + k) 4)) 5 (σ (2 + k) 5)) 6 (σ (2 + k) 6)) 7 (σ (2 + k) 7)) 8 (g_X4_level (σ (2 + k)))) 9 x2)) hx hb hK hw 0 rfl (by decide) (by decide) rfl dX6_toldOfPond_113 (fun H locs hw => ?_)
  have hw : mH D a cs N (mA a N s.heap.size) s.heap σ ([(q1, .inl (cs 1, 11, .inl (upd (upd (upd (upd (upd (upd (upd (upd (upd (upd (upd (fun _ => 0) 0 (σ (2 + k) 0)) 1 (σ (2 + k) 1)) 2 (σ (2 + k) 2)) 3 (σ (2 + k) 3)) 4 (σ (2 + k) 4)) 5 (σ (2 + k) 5)) 6 (σ (2 + k) 6)) 7 (σ (2 + k) 7)) 8 (g_X4_level (σ (2 + k)))) 9 x2) 10 (g_X6_one 0))))]) H locs := hw
  refine lv_astore (lv' := [(4, .ref q1), (3, .ref (a (2 + k))), (0, .ref (a 10)), (1, .int (nI k)), (2, .int (nI w))]) hx hb dX6_toldOfPond_114 hl (by decide) rfl (fun ls hl => ?_)
  refine lv_aload hx hb dX6_toldOfPond_116 (lv_at hl 0 rfl) ?_
  refine lv_iload_n hx hb dX6_toldOfPond_118 rfl (lv_at hl 4 rfl) ?_
  refine mx_ld (n := 11) (k := w) (f := (upd (upd (upd (upd (upd (upd (upd (upd (upd (upd (upd (fun _ => 0) 0 (σ (2 + k) 0)) 1 (σ (2 + k) 1)) 2 (σ (2 + k) 2)) 3 (σ (2 + k) 3)) 4 (σ (2 + k) 4)) 5 (σ (2 + k) 5)) 6 (σ (2 + k) 6)) 7 (σ (2 + k) 7)) 8 (g_X4_level (σ (2 + k)))) 9 x2) 10 (g_X6_one 0))) hx hb hK hw 0 rfl (by omega) (by decide) rfl dX6_toldOfPond_119 ?_
  exact me_i hx hb hr hlocks hw (by subst ex2; rcases m_lt11 hw11 with rfl | rfl | rfl | rfl | rfl | rfl | rfl | rfl | rfl | rfl | rfl <;> rfl) (by subst ex2; rfl) dX6_toldOfPond_120
set_option maxHeartbeats 4000000 in
set_option maxRecDepth 100000 in
theorem zX6_ofPond_1 (l : Launch) (D : va_G) (a : Nat → Nat) (cs : Nat → ClassId) (N : Nat) (hN : 12 ≤ N) (σ : sS) (p0 y : Int32) (hp : g_X6_isNoPond p0 = 1) : mMi l yX6_ofPond wsX6_ofPond ({ frames := 3, cells := 1, slots := 11, locals := 69 }) 1 11 D a cs N [.ref (a 10), .int p0, .int y] σ 0 (m_thr σ 1) := by
  intro sz
  refine Met.ofW (cc := cX6_ofPond) (maxL := 3) (ret := (some .int)) (by decide) rfl ?_
  intro p e s m args below meth c s₁ B hml hv
  obtain ⟨rfl, hsz, hv2⟩ := hv
  have hv3 : mB D a cs N σ sz s := ⟨hsz, hv2⟩
  subst hsz
  have hw := mH_start hv3
  obtain ⟨-, -, hK, -, hN2⟩ := hv3
  have hx := B.exec
  have hb := B.bytes
  have hr := B.returns
  have hts := atoms_spec (ws := wsX6_ofPond) B.pre
  have hown : s.vm.findClass RX6 = some m.cls := findClass_of_methodNamed B.named
  have hlocks := B.notSynchronized
  have hA : ∀ q : Nat, s.heap.size ≤ q → mA a N s.heap.size q := mA_new
  have hl := lv_entry ([.ref (a 10), .int p0, .int y]) (n := 3) (Nat.le_of_ble_eq_true rfl)
  rw [lg_entry_eq]
  generalize (lg_sl ([.ref (a 10), .int p0, .int y]) ++ List.replicate (3 - (lg_sl ([.ref (a 10), .int p0, .int y])).length) Slot.unset).toArray = ls at hl ⊢
  have hl : lv_has ls 3 [(0, .ref (a 10)), (1, .int p0), (2, .int y)] := hl
  refine lv_aload_n hx hb dX6_ofPond_0 rfl (lv_at hl 0 rfl) ?_
  refine lv_iload_n hx hb dX6_ofPond_1 rfl (lv_at hl 1 rfl) ?_
  refine mc_i (mr_S (As := [.int p0]) (rest := [.ref (a 10)]) ⟨hx, hb, hml, hown, hts⟩ (zX6_isNoPond l D a cs N (by omega) _ p0 _) (va_cwS 1 hts gX6_ofPond_X6_isNoPond rfl rfl rfl (by decide +kernel) ⟨Nat.le_of_ble_eq_true rfl, Nat.le_of_ble_eq_true rfl⟩) hK hN2 hw rfl hl.1 (Nat.le_of_ble_eq_true rfl) dX6_ofPond_2 ⟨Nat.le_of_ble_eq_true rfl, Nat.le_of_ble_eq_true rfl⟩) hw hA (fun H locs hw => ?_)
  refine lv_iconst (v := 1) hx hb dX6_ofPond_5 (by decide) ?_
  refine mc_i (mr_V (i := 10) (As := [.int (g_X6_isNoPond p0), .int 1]) (rest := []) ⟨hx, hb, hml, hown, hts⟩ (zX6_start1 l D a cs N (by omega) _ (g_X6_isNoPond p0) 1 (by rw [hp]; decide) (by decide)  _) (cwV 2 hts gX6_ofPond_X6_start rfl rfl rfl (by decide +kernel) ⟨Nat.le_of_ble_eq_true rfl, Nat.le_of_ble_eq_true rfl⟩) hK hN2 hw (by omega) mE_o kcX6 rfl hl.1 (Nat.le_of_ble_eq_true rfl) dX6_ofPond_6 ⟨Nat.le_of_ble_eq_true rfl, Nat.le_of_ble_eq_true rfl⟩) hw hA (fun H locs hw => ?_)
  obtain ⟨τ1, eτ1⟩ : ∃ zz : sS, m_thr σ 1 = zz := ⟨_, rfl⟩
  rw [eτ1] at hw
  refine lv_if_ne (tgt := 35) hx hb dX6_ofPond_9 (by decide) (fun c2 => ?_) (fun c2 => absurd c2 (by decide))
  refine lv_iconst (v := 0) hx hb dX6_ofPond_35 (by decide) ?_
  refine lv_goto (tgt := 45) hx hb dX6_ofPond_36 (by decide) ?_
  refine W.widen (k := 1) (n := 11) (Nat.le_of_ble_eq_true rfl) (Nat.le_of_ble_eq_true rfl) ?_
  exact me_i hx hb hr hlocks hw (by rfl) (by subst eτ1; rfl) dX6_ofPond_45
set_option maxHeartbeats 4000000 in
set_option maxRecDepth 100000 in
theorem zX6_ofPond_2 (l : Launch) (D : va_G) (a : Nat → Nat) (cs : Nat → ClassId) (N : Nat) (hN : 12 ≤ N) (σ : sS) (k : Nat) (hk : k < 8) (y : Int32) (hy : g_X6_isIn y 0 10 = 0) : mMi l yX6_ofPond wsX6_ofPond ({ frames := 3, cells := 1, slots := 11, locals := 69 }) 1 11 D a cs N [.ref (a 10), .int (nI k), .int y] σ 0 (m_thr σ 2) := by
  intro sz
  refine Met.ofW (cc := cX6_ofPond) (maxL := 3) (ret := (some .int)) (by decide) rfl ?_
  intro p e s m args below meth c s₁ B hml hv
  obtain ⟨rfl, hsz, hv2⟩ := hv
  have hv3 : mB D a cs N σ sz s := ⟨hsz, hv2⟩
  subst hsz
  have hw := mH_start hv3
  obtain ⟨-, -, hK, -, hN2⟩ := hv3
  have hx := B.exec
  have hb := B.bytes
  have hr := B.returns
  have hts := atoms_spec (ws := wsX6_ofPond) B.pre
  have hown : s.vm.findClass RX6 = some m.cls := findClass_of_methodNamed B.named
  have hlocks := B.notSynchronized
  have hA : ∀ q : Nat, s.heap.size ≤ q → mA a N s.heap.size q := mA_new
  have hl := lv_entry ([.ref (a 10), .int (nI k), .int y]) (n := 3) (Nat.le_of_ble_eq_true rfl)
  rw [lg_entry_eq]
  generalize (lg_sl ([.ref (a 10), .int (nI k), .int y]) ++ List.replicate (3 - (lg_sl ([.ref (a 10), .int (nI k), .int y])).length) Slot.unset).toArray = ls at hl ⊢
  have hl : lv_has ls 3 [(0, .ref (a 10)), (1, .int (nI k)), (2, .int y)] := hl
  refine lv_aload_n hx hb dX6_ofPond_0 rfl (lv_at hl 0 rfl) ?_
  refine lv_iload_n hx hb dX6_ofPond_1 rfl (lv_at hl 1 rfl) ?_
  refine mc_i (mr_S (As := [.int (nI k)]) (rest := [.ref (a 10)]) ⟨hx, hb, hml, hown, hts⟩ (zX6_isNoPond l D a cs N (by omega) _ (nI k) _) (va_cwS 1 hts gX6_ofPond_X6_isNoPond rfl rfl rfl (by decide +kernel) ⟨Nat.le_of_ble_eq_true rfl, Nat.le_of_ble_eq_true rfl⟩) hK hN2 hw rfl hl.1 (Nat.le_of_ble_eq_true rfl) dX6_ofPond_2 ⟨Nat.le_of_ble_eq_true rfl, Nat.le_of_ble_eq_true rfl⟩) hw hA (fun H locs hw => ?_)
  refine lv_iconst (v := 1) hx hb dX6_ofPond_5 (by decide) ?_
  refine mc_i (mr_V (i := 10) (As := [.int (g_X6_isNoPond (nI k)), .int 1]) (rest := []) ⟨hx, hb, hml, hown, hts⟩ (zX6_start0 l D a cs N (by omega) _ (g_X6_isNoPond (nI k)) 1 (m_pond hk)  _) (cwV 2 hts gX6_ofPond_X6_start rfl rfl rfl (by decide +kernel) ⟨Nat.le_of_ble_eq_true rfl, Nat.le_of_ble_eq_true rfl⟩) hK hN2 hw (by omega) mE_o kcX6 rfl hl.1 (Nat.le_of_ble_eq_true rfl) dX6_ofPond_6 ⟨Nat.le_of_ble_eq_true rfl, Nat.le_of_ble_eq_true rfl⟩) hw hA (fun H locs hw => ?_)
  obtain ⟨τ1, eτ1⟩ : ∃ zz : sS, m_thr σ 0 = zz := ⟨_, rfl⟩
  rw [eτ1] at hw
  refine lv_if_ne (tgt := 35) hx hb dX6_ofPond_9 (by decide) (fun c2 => absurd (by decide) c2) (fun c2 => ?_)
  refine lv_aload_n hx hb dX6_ofPond_12 rfl (lv_at hl 0 rfl) ?_
  refine lv_iload_n hx hb dX6_ofPond_13 rfl (lv_at hl 2 rfl) ?_
  refine lv_iconst (v := 0) hx hb dX6_ofPond_14 (by decide) ?_
  refine lv_bipush (v := 10) hx hb dX6_ofPond_15 (by decide) ?_
  refine mc_i (mr_S (As := [.int y, .int 0, .int 10]) (rest := [.ref (a 10)]) ⟨hx, hb, hml, hown, hts⟩ (zX6_isIn l D a cs N (by omega) _ y 0 10 _) (va_cwS 3 hts gX6_ofPond_X6_isIn rfl rfl rfl (by decide +kernel) ⟨Nat.le_of_ble_eq_true rfl, Nat.le_of_ble_eq_true rfl⟩) hK hN2 hw rfl hl.1 (Nat.le_of_ble_eq_true rfl) dX6_ofPond_17 ⟨Nat.le_of_ble_eq_true rfl, Nat.le_of_ble_eq_true rfl⟩) hw hA (fun H locs hw => ?_)
  refine lv_if_ne (tgt := 27) hx hb dX6_ofPond_20 (by decide) (fun c3 => absurd hy c3) (fun c3 => ?_)
  refine lv_iconst (v := 1) hx hb dX6_ofPond_23 (by decide) ?_
  refine lv_goto (tgt := 28) hx hb dX6_ofPond_24 (by decide) ?_
  refine lv_iconst (v := 2) hx hb dX6_ofPond_28 (by decide) ?_
  refine mc_i (mr_V (i := 10) (As := [.int 1, .int 2]) (rest := []) ⟨hx, hb, hml, hown, hts⟩ (zX6_refuse1 l D a cs N (by omega) _ 1 2 (by decide) (by decide) (by subst eτ1; rfl) _) (cwV 2 hts gX6_ofPond_X6_refuse rfl rfl rfl (by decide +kernel) ⟨Nat.le_of_ble_eq_true rfl, Nat.le_of_ble_eq_true rfl⟩) hK hN2 hw (by omega) mE_o kcX6 rfl hl.1 (Nat.le_of_ble_eq_true rfl) dX6_ofPond_29 ⟨Nat.le_of_ble_eq_true rfl, Nat.le_of_ble_eq_true rfl⟩) hw hA (fun H locs hw => ?_)
  obtain ⟨τ4, eτ4⟩ : ∃ zz : sS, m_thr τ1 2 = zz := ⟨_, rfl⟩
  rw [eτ4] at hw
  refine lv_if_eq (tgt := 39) hx hb dX6_ofPond_32 (by decide) (fun c5 => absurd c5 (by decide)) (fun c5 => ?_)
  refine lv_iconst (v := 0) hx hb dX6_ofPond_35 (by decide) ?_
  refine lv_goto (tgt := 45) hx hb dX6_ofPond_36 (by decide) ?_
  refine W.widen (k := 1) (n := 11) (by omega) (by omega) ?_
  exact me_i hx hb hr hlocks hw (by rfl) (by subst eτ4 eτ1; exact m_thr2 _ _ _) dX6_ofPond_45
set_option maxHeartbeats 4000000 in
set_option maxRecDepth 100000 in
theorem zX6_ofPond_3 (l : Launch) (D : va_G) (a : Nat → Nat) (cs : Nat → ClassId) (N : Nat) (hN : 12 ≤ N) (σ : sS) (k : Nat) (hk : k < 8) (w : Nat) (hw11 : w < 11) (hy : g_X6_isIn (nI w) 0 10 = 1) (har : ¬ σ (2 + k) 0 = 0) (hh : ¬ σ (2 + k) 10 = σ 0 1) : mMi l yX6_ofPond wsX6_ofPond ({ frames := 3, cells := 1, slots := 11, locals := 69 }) 1 11 D a cs N [.ref (a 10), .int (nI k), .int (nI w)] σ (g_tell (m_thr σ 0 (2 + k)) w) (m_thr σ 0) := by
  intro sz
  refine Met.ofW (cc := cX6_ofPond) (maxL := 3) (ret := (some .int)) (by decide) rfl ?_
  intro p e s m args below meth c s₁ B hml hv
  obtain ⟨rfl, hsz, hv2⟩ := hv
  have hv3 : mB D a cs N σ sz s := ⟨hsz, hv2⟩
  subst hsz
  have hw := mH_start hv3
  obtain ⟨-, -, hK, -, hN2⟩ := hv3
  have hx := B.exec
  have hb := B.bytes
  have hr := B.returns
  have hts := atoms_spec (ws := wsX6_ofPond) B.pre
  have hown : s.vm.findClass RX6 = some m.cls := findClass_of_methodNamed B.named
  have hlocks := B.notSynchronized
  have hA : ∀ q : Nat, s.heap.size ≤ q → mA a N s.heap.size q := mA_new
  have hl := lv_entry ([.ref (a 10), .int (nI k), .int (nI w)]) (n := 3) (Nat.le_of_ble_eq_true rfl)
  rw [lg_entry_eq]
  generalize (lg_sl ([.ref (a 10), .int (nI k), .int (nI w)]) ++ List.replicate (3 - (lg_sl ([.ref (a 10), .int (nI k), .int (nI w)])).length) Slot.unset).toArray = ls at hl ⊢
  have hl : lv_has ls 3 [(0, .ref (a 10)), (1, .int (nI k)), (2, .int (nI w))] := hl
  refine lv_aload_n hx hb dX6_ofPond_0 rfl (lv_at hl 0 rfl) ?_
  refine lv_iload_n hx hb dX6_ofPond_1 rfl (lv_at hl 1 rfl) ?_
  refine mc_i (mr_S (As := [.int (nI k)]) (rest := [.ref (a 10)]) ⟨hx, hb, hml, hown, hts⟩ (zX6_isNoPond l D a cs N (by omega) _ (nI k) _) (va_cwS 1 hts gX6_ofPond_X6_isNoPond rfl rfl rfl (by decide +kernel) ⟨Nat.le_of_ble_eq_true rfl, Nat.le_of_ble_eq_true rfl⟩) hK hN2 hw rfl hl.1 (Nat.le_of_ble_eq_true rfl) dX6_ofPond_2 ⟨Nat.le_of_ble_eq_true rfl, Nat.le_of_ble_eq_true rfl⟩) hw hA (fun H locs hw => ?_)
  refine lv_iconst (v := 1) hx hb dX6_ofPond_5 (by decide) ?_
  refine mc_i (mr_V (i := 10) (As := [.int (g_X6_isNoPond (nI k)), .int 1]) (rest := []) ⟨hx, hb, hml, hown, hts⟩ (zX6_start0 l D a cs N (by omega) _ (g_X6_isNoPond (nI k)) 1 (m_pond hk)  _) (cwV 2 hts gX6_ofPond_X6_start rfl rfl rfl (by decide +kernel) ⟨Nat.le_of_ble_eq_true rfl, Nat.le_of_ble_eq_true rfl⟩) hK hN2 hw (by omega) mE_o kcX6 rfl hl.1 (Nat.le_of_ble_eq_true rfl) dX6_ofPond_6 ⟨Nat.le_of_ble_eq_true rfl, Nat.le_of_ble_eq_true rfl⟩) hw hA (fun H locs hw => ?_)
  obtain ⟨τ1, eτ1⟩ : ∃ zz : sS, m_thr σ 0 = zz := ⟨_, rfl⟩
  rw [eτ1] at hw
  refine lv_if_ne (tgt := 35) hx hb dX6_ofPond_9 (by decide) (fun c2 => absurd (by decide) c2) (fun c2 => ?_)
  refine lv_aload_n hx hb dX6_ofPond_12 rfl (lv_at hl 0 rfl) ?_
  refine lv_iload_n hx hb dX6_ofPond_13 rfl (lv_at hl 2 rfl) ?_
  refine lv_iconst (v := 0) hx hb dX6_ofPond_14 (by decide) ?_
  refine lv_bipush (v := 10) hx hb dX6_ofPond_15 (by decide) ?_
  refine mc_i (mr_S (As := [.int (nI w), .int 0, .int 10]) (rest := [.ref (a 10)]) ⟨hx, hb, hml, hown, hts⟩ (zX6_isIn l D a cs N (by omega) _ (nI w) 0 10 _) (va_cwS 3 hts gX6_ofPond_X6_isIn rfl rfl rfl (by decide +kernel) ⟨Nat.le_of_ble_eq_true rfl, Nat.le_of_ble_eq_true rfl⟩) hK hN2 hw rfl hl.1 (Nat.le_of_ble_eq_true rfl) dX6_ofPond_17 ⟨Nat.le_of_ble_eq_true rfl, Nat.le_of_ble_eq_true rfl⟩) hw hA (fun H locs hw => ?_)
  refine lv_if_ne (tgt := 27) hx hb dX6_ofPond_20 (by decide) (fun c3 => ?_) (fun c3 => absurd c3 (by rw [hy]; decide))
  refine lv_iconst (v := 0) hx hb dX6_ofPond_27 (by decide) ?_
  refine lv_iconst (v := 2) hx hb dX6_ofPond_28 (by decide) ?_
  refine mc_i (mr_V (i := 10) (As := [.int 0, .int 2]) (rest := []) ⟨hx, hb, hml, hown, hts⟩ (zX6_refuse0 l D a cs N (by omega) _ 0 2 rfl (by subst eτ1; rfl) _) (cwV 2 hts gX6_ofPond_X6_refuse rfl rfl rfl (by decide +kernel) ⟨Nat.le_of_ble_eq_true rfl, Nat.le_of_ble_eq_true rfl⟩) hK hN2 hw (by omega) mE_o kcX6 rfl hl.1 (Nat.le_of_ble_eq_true rfl) dX6_ofPond_29 ⟨Nat.le_of_ble_eq_true rfl, Nat.le_of_ble_eq_true rfl⟩) hw hA (fun H locs hw => ?_)
  refine lv_if_eq (tgt := 39) hx hb dX6_ofPond_32 (by decide) (fun c4 => ?_) (fun c4 => absurd (by decide) c4)
  refine lv_aload_n hx hb dX6_ofPond_39 rfl (lv_at hl 0 rfl) ?_
  refine lv_iload_n hx hb dX6_ofPond_40 rfl (lv_at hl 1 rfl) ?_
  refine lv_iload_n hx hb dX6_ofPond_41 rfl (lv_at hl 2 rfl) ?_
  refine mc_i (mr_V (i := 10) (As := [.int (nI k), .int (nI w)]) (rest := []) ⟨hx, hb, hml, hown, hts⟩ (zX6_toldOfPond l D a cs N (by omega) _ k (by omega) w (by omega) (by subst eτ1; rw [m_thr_ne (by omega)]; exact har) (by subst eτ1; rw [m_thr_ne (by omega), m_thr_ne (by omega)]; exact hh) _) (cwV 2 hts gX6_ofPond_X6_toldOfPond rfl rfl rfl (by decide +kernel) ⟨Nat.le_of_ble_eq_true rfl, Nat.le_of_ble_eq_true rfl⟩) hK hN2 hw (by omega) mE_o kcX6 rfl hl.1 (Nat.le_of_ble_eq_true rfl) dX6_ofPond_42 ⟨Nat.le_of_ble_eq_true rfl, Nat.le_of_ble_eq_true rfl⟩) hw hA (fun H locs hw => ?_)
  exact me_i hx hb hr hlocks hw (by subst eτ1; rfl) (by subst eτ1; rfl) dX6_ofPond_45
set_option maxHeartbeats 4000000 in
set_option maxRecDepth 100000 in
theorem zX6_tide_1 (l : Launch) (D : va_G) (a : Nat → Nat) (cs : Nat → ClassId) (N : Nat) (hN : 12 ≤ N) (σ : sS) (x : Int32) (hy : g_X6_isIn x 0 9999 = 0) : mMi l yX6_tide wsX6_tide ({ frames := 2, cells := 0, slots := 0, locals := 45 }) 0 0 D a cs N [.ref (a 10), .int x] σ 0 (m_thr σ 1) := by
  intro sz
  refine Met.ofW (cc := cX6_tide) (maxL := 2) (ret := (some .int)) (by decide) rfl ?_
  intro p e s m args below meth c s₁ B hml hv
  obtain ⟨rfl, hsz, hv2⟩ := hv
  have hv3 : mB D a cs N σ sz s := ⟨hsz, hv2⟩
  subst hsz
  have hw := mH_start hv3
  obtain ⟨-, -, hK, -, hN2⟩ := hv3
  have hx := B.exec
  have hb := B.bytes
  have hr := B.returns
  have hts := atoms_spec (ws := wsX6_tide) B.pre
  have hown : s.vm.findClass RX6 = some m.cls := findClass_of_methodNamed B.named
  have hlocks := B.notSynchronized
  have hA : ∀ q : Nat, s.heap.size ≤ q → mA a N s.heap.size q := mA_new
  have hl := lv_entry ([.ref (a 10), .int x]) (n := 2) (Nat.le_of_ble_eq_true rfl)
  rw [lg_entry_eq]
  generalize (lg_sl ([.ref (a 10), .int x]) ++ List.replicate (2 - (lg_sl ([.ref (a 10), .int x])).length) Slot.unset).toArray = ls at hl ⊢
  have hl : lv_has ls 2 [(0, .ref (a 10)), (1, .int x)] := hl
  refine lv_aload_n hx hb dX6_tide_0 rfl (lv_at hl 0 rfl) ?_
  refine lv_iload_n hx hb dX6_tide_1 rfl (lv_at hl 1 rfl) ?_
  refine lv_iconst (v := 0) hx hb dX6_tide_2 (by decide) ?_
  refine lv_sipush (v := 9999) hx hb dX6_tide_3 (by decide) ?_
  refine mc_i (mr_S (As := [.int x, .int 0, .int 9999]) (rest := [.ref (a 10)]) ⟨hx, hb, hml, hown, hts⟩ (zX6_isIn l D a cs N (by omega) _ x 0 9999 _) (va_cwS 3 hts gX6_tide_X6_isIn rfl rfl rfl (by decide +kernel) ⟨Nat.le_of_ble_eq_true rfl, Nat.le_of_ble_eq_true rfl⟩) hK hN2 hw rfl hl.1 (Nat.le_of_ble_eq_true rfl) dX6_tide_6 ⟨Nat.le_of_ble_eq_true rfl, Nat.le_of_ble_eq_true rfl⟩) hw hA (fun H locs hw => ?_)
  refine lv_if_ne (tgt := 16) hx hb dX6_tide_9 (by decide) (fun c1 => absurd hy c1) (fun c1 => ?_)
  refine lv_iconst (v := 1) hx hb dX6_tide_12 (by decide) ?_
  refine lv_goto (tgt := 17) hx hb dX6_tide_13 (by decide) ?_
  refine lv_iconst (v := 1) hx hb dX6_tide_17 (by decide) ?_
  refine mc_i (mr_V (i := 10) (As := [.int 1, .int 1]) (rest := []) ⟨hx, hb, hml, hown, hts⟩ (zX6_start1 l D a cs N (by omega) _ 1 1 (by decide) (by decide)  _) (cwV 2 hts gX6_tide_X6_start rfl rfl rfl (by decide +kernel) ⟨Nat.le_of_ble_eq_true rfl, Nat.le_of_ble_eq_true rfl⟩) hK hN2 hw (by omega) mE_o kcX6 rfl hl.1 (Nat.le_of_ble_eq_true rfl) dX6_tide_18 ⟨Nat.le_of_ble_eq_true rfl, Nat.le_of_ble_eq_true rfl⟩) hw hA (fun H locs hw => ?_)
  obtain ⟨τ2, eτ2⟩ : ∃ zz : sS, m_thr σ 1 = zz := ⟨_, rfl⟩
  rw [eτ2] at hw
  refine lv_if_eq (tgt := 28) hx hb dX6_tide_21 (by decide) (fun c3 => absurd c3 (by decide)) (fun c3 => ?_)
  refine lv_iconst (v := 0) hx hb dX6_tide_24 (by decide) ?_
  refine lv_goto (tgt := 32) hx hb dX6_tide_25 (by decide) ?_
  exact me_i hx hb hr hlocks hw (by rfl) (by subst eτ2; rfl) dX6_tide_32
set_option maxHeartbeats 4000000 in
set_option maxRecDepth 100000 in
theorem zX6_tide_2 (l : Launch) (D : va_G) (a : Nat → Nat) (cs : Nat → ClassId) (N : Nat) (hN : 12 ≤ N) (σ : sS) (x : Int32) (hy : g_X6_isIn x 0 9999 = 1) : mMi l yX6_tide wsX6_tide ({ frames := 2, cells := 0, slots := 0, locals := 45 }) 0 0 D a cs N [.ref (a 10), .int x] σ (g_X6_tideOf x) (m_thr σ 0) := by
  intro sz
  refine Met.ofW (cc := cX6_tide) (maxL := 2) (ret := (some .int)) (by decide) rfl ?_
  intro p e s m args below meth c s₁ B hml hv
  obtain ⟨rfl, hsz, hv2⟩ := hv
  have hv3 : mB D a cs N σ sz s := ⟨hsz, hv2⟩
  subst hsz
  have hw := mH_start hv3
  obtain ⟨-, -, hK, -, hN2⟩ := hv3
  have hx := B.exec
  have hb := B.bytes
  have hr := B.returns
  have hts := atoms_spec (ws := wsX6_tide) B.pre
  have hown : s.vm.findClass RX6 = some m.cls := findClass_of_methodNamed B.named
  have hlocks := B.notSynchronized
  have hA : ∀ q : Nat, s.heap.size ≤ q → mA a N s.heap.size q := mA_new
  have hl := lv_entry ([.ref (a 10), .int x]) (n := 2) (Nat.le_of_ble_eq_true rfl)
  rw [lg_entry_eq]
  generalize (lg_sl ([.ref (a 10), .int x]) ++ List.replicate (2 - (lg_sl ([.ref (a 10), .int x])).length) Slot.unset).toArray = ls at hl ⊢
  have hl : lv_has ls 2 [(0, .ref (a 10)), (1, .int x)] := hl
  refine lv_aload_n hx hb dX6_tide_0 rfl (lv_at hl 0 rfl) ?_
  refine lv_iload_n hx hb dX6_tide_1 rfl (lv_at hl 1 rfl) ?_
  refine lv_iconst (v := 0) hx hb dX6_tide_2 (by decide) ?_
  refine lv_sipush (v := 9999) hx hb dX6_tide_3 (by decide) ?_
  refine mc_i (mr_S (As := [.int x, .int 0, .int 9999]) (rest := [.ref (a 10)]) ⟨hx, hb, hml, hown, hts⟩ (zX6_isIn l D a cs N (by omega) _ x 0 9999 _) (va_cwS 3 hts gX6_tide_X6_isIn rfl rfl rfl (by decide +kernel) ⟨Nat.le_of_ble_eq_true rfl, Nat.le_of_ble_eq_true rfl⟩) hK hN2 hw rfl hl.1 (Nat.le_of_ble_eq_true rfl) dX6_tide_6 ⟨Nat.le_of_ble_eq_true rfl, Nat.le_of_ble_eq_true rfl⟩) hw hA (fun H locs hw => ?_)
  refine lv_if_ne (tgt := 16) hx hb dX6_tide_9 (by decide) (fun c1 => ?_) (fun c1 => absurd c1 (by rw [hy]; decide))
  refine lv_iconst (v := 0) hx hb dX6_tide_16 (by decide) ?_
  refine lv_iconst (v := 1) hx hb dX6_tide_17 (by decide) ?_
  refine mc_i (mr_V (i := 10) (As := [.int 0, .int 1]) (rest := []) ⟨hx, hb, hml, hown, hts⟩ (zX6_start0 l D a cs N (by omega) _ 0 1 rfl  _) (cwV 2 hts gX6_tide_X6_start rfl rfl rfl (by decide +kernel) ⟨Nat.le_of_ble_eq_true rfl, Nat.le_of_ble_eq_true rfl⟩) hK hN2 hw (by omega) mE_o kcX6 rfl hl.1 (Nat.le_of_ble_eq_true rfl) dX6_tide_18 ⟨Nat.le_of_ble_eq_true rfl, Nat.le_of_ble_eq_true rfl⟩) hw hA (fun H locs hw => ?_)
  obtain ⟨τ2, eτ2⟩ : ∃ zz : sS, m_thr σ 0 = zz := ⟨_, rfl⟩
  rw [eτ2] at hw
  refine lv_if_eq (tgt := 28) hx hb dX6_tide_21 (by decide) (fun c3 => ?_) (fun c3 => absurd (by decide) c3)
  refine lv_iload_n hx hb dX6_tide_28 rfl (lv_at hl 1 rfl) ?_
  refine mc_i (mr_S (As := [.int x]) (rest := []) ⟨hx, hb, hml, hown, hts⟩ (zX6_tideOf l D a cs N (by omega) _ x _) (va_cwS 1 hts gX6_tide_X6_tideOf rfl rfl rfl (by decide +kernel) ⟨Nat.le_of_ble_eq_true rfl, Nat.le_of_ble_eq_true rfl⟩) hK hN2 hw rfl hl.1 (Nat.le_of_ble_eq_true rfl) dX6_tide_29 ⟨Nat.le_of_ble_eq_true rfl, Nat.le_of_ble_eq_true rfl⟩) hw hA (fun H locs hw => ?_)
  exact me_i hx hb hr hlocks hw (by subst eτ2; rfl) (by subst eτ2; rfl) dX6_tide_32
set_option maxHeartbeats 4000000 in
set_option maxRecDepth 100000 in
theorem zX6_crustIn_1 (l : Launch) (D : va_G) (a : Nat → Nat) (cs : Nat → ClassId) (N : Nat) (hN : 12 ≤ N) (σ : sS) (p0 x y : Int32) (hp : g_X6_isNoPan p0 = 1) : mMi l yX6_crustIn wsX6_crustIn ({ frames := 5, cells := 78, slots := 667, locals := 124 }) 78 667 D a cs N [.ref (a 10), .int p0, .int x, .int y] σ 0 (m_thr σ 1) := by
  intro sz
  refine Met.ofW (cc := cX6_crustIn) (maxL := 4) (ret := (some .int)) (by decide) rfl ?_
  intro p e s m args below meth c s₁ B hml hv
  obtain ⟨rfl, hsz, hv2⟩ := hv
  have hv3 : mB D a cs N σ sz s := ⟨hsz, hv2⟩
  subst hsz
  have hw := mH_start hv3
  obtain ⟨-, -, hK, -, hN2⟩ := hv3
  have hx := B.exec
  have hb := B.bytes
  have hr := B.returns
  have hts := atoms_spec (ws := wsX6_crustIn) B.pre
  have hown : s.vm.findClass RX6 = some m.cls := findClass_of_methodNamed B.named
  have hlocks := B.notSynchronized
  have hA : ∀ q : Nat, s.heap.size ≤ q → mA a N s.heap.size q := mA_new
  have hl := lv_entry ([.ref (a 10), .int p0, .int x, .int y]) (n := 4) (Nat.le_of_ble_eq_true rfl)
  rw [lg_entry_eq]
  generalize (lg_sl ([.ref (a 10), .int p0, .int x, .int y]) ++ List.replicate (4 - (lg_sl ([.ref (a 10), .int p0, .int x, .int y])).length) Slot.unset).toArray = ls at hl ⊢
  have hl : lv_has ls 4 [(0, .ref (a 10)), (1, .int p0), (2, .int x), (3, .int y)] := hl
  refine lv_aload_n hx hb dX6_crustIn_0 rfl (lv_at hl 0 rfl) ?_
  refine lv_iload_n hx hb dX6_crustIn_1 rfl (lv_at hl 1 rfl) ?_
  refine mc_i (mr_S (As := [.int p0]) (rest := [.ref (a 10)]) ⟨hx, hb, hml, hown, hts⟩ (zX6_isNoPan l D a cs N (by omega) _ p0 _) (va_cwS 1 hts gX6_crustIn_X6_isNoPan rfl rfl rfl (by decide +kernel) ⟨Nat.le_of_ble_eq_true rfl, Nat.le_of_ble_eq_true rfl⟩) hK hN2 hw rfl hl.1 (Nat.le_of_ble_eq_true rfl) dX6_crustIn_2 ⟨Nat.le_of_ble_eq_true rfl, Nat.le_of_ble_eq_true rfl⟩) hw hA (fun H locs hw => ?_)
  refine lv_iconst (v := 1) hx hb dX6_crustIn_5 (by decide) ?_
  refine mc_i (mr_V (i := 10) (As := [.int (g_X6_isNoPan p0), .int 1]) (rest := []) ⟨hx, hb, hml, hown, hts⟩ (zX6_start1 l D a cs N (by omega) _ (g_X6_isNoPan p0) 1 (by rw [hp]; decide) (by decide)  _) (cwV 2 hts gX6_crustIn_X6_start rfl rfl rfl (by decide +kernel) ⟨Nat.le_of_ble_eq_true rfl, Nat.le_of_ble_eq_true rfl⟩) hK hN2 hw (by omega) mE_o kcX6 rfl hl.1 (Nat.le_of_ble_eq_true rfl) dX6_crustIn_6 ⟨Nat.le_of_ble_eq_true rfl, Nat.le_of_ble_eq_true rfl⟩) hw hA (fun H locs hw => ?_)
  obtain ⟨τ1, eτ1⟩ : ∃ zz : sS, m_thr σ 1 = zz := ⟨_, rfl⟩
  rw [eτ1] at hw
  refine lv_if_ne (tgt := 45) hx hb dX6_crustIn_9 (by decide) (fun c2 => ?_) (fun c2 => absurd c2 (by decide))
  refine lv_iconst (v := 0) hx hb dX6_crustIn_45 (by decide) ?_
  refine lv_goto (tgt := 56) hx hb dX6_crustIn_46 (by decide) ?_
  refine W.widen (k := 78) (n := 667) (by omega) (by omega) ?_
  exact me_i hx hb hr hlocks hw (by rfl) (by subst eτ1; rfl) dX6_crustIn_56
set_option maxHeartbeats 4000000 in
set_option maxRecDepth 100000 in
theorem zX6_crustIn_2 (l : Launch) (D : va_G) (a : Nat → Nat) (cs : Nat → ClassId) (N : Nat) (hN : 12 ≤ N) (σ : sS) (q : Nat) (hq : q < 3) (x y : Int32) (hy : g_X6_isIn x 0 9 = 0) : mMi l yX6_crustIn wsX6_crustIn ({ frames := 5, cells := 78, slots := 667, locals := 124 }) 78 667 D a cs N [.ref (a 10), .int (nI (5 + q)), .int x, .int y] σ 0 (m_thr σ 2) := by
  intro sz
  refine Met.ofW (cc := cX6_crustIn) (maxL := 4) (ret := (some .int)) (by decide) rfl ?_
  intro p e s m args below meth c s₁ B hml hv
  obtain ⟨rfl, hsz, hv2⟩ := hv
  have hv3 : mB D a cs N σ sz s := ⟨hsz, hv2⟩
  subst hsz
  have hw := mH_start hv3
  obtain ⟨-, -, hK, -, hN2⟩ := hv3
  have hx := B.exec
  have hb := B.bytes
  have hr := B.returns
  have hts := atoms_spec (ws := wsX6_crustIn) B.pre
  have hown : s.vm.findClass RX6 = some m.cls := findClass_of_methodNamed B.named
  have hlocks := B.notSynchronized
  have hA : ∀ q : Nat, s.heap.size ≤ q → mA a N s.heap.size q := mA_new
  have hl := lv_entry ([.ref (a 10), .int (nI (5 + q)), .int x, .int y]) (n := 4) (Nat.le_of_ble_eq_true rfl)
  rw [lg_entry_eq]
  generalize (lg_sl ([.ref (a 10), .int (nI (5 + q)), .int x, .int y]) ++ List.replicate (4 - (lg_sl ([.ref (a 10), .int (nI (5 + q)), .int x, .int y])).length) Slot.unset).toArray = ls at hl ⊢
  have hl : lv_has ls 4 [(0, .ref (a 10)), (1, .int (nI (5 + q))), (2, .int x), (3, .int y)] := hl
  refine lv_aload_n hx hb dX6_crustIn_0 rfl (lv_at hl 0 rfl) ?_
  refine lv_iload_n hx hb dX6_crustIn_1 rfl (lv_at hl 1 rfl) ?_
  refine mc_i (mr_S (As := [.int (nI (5 + q))]) (rest := [.ref (a 10)]) ⟨hx, hb, hml, hown, hts⟩ (zX6_isNoPan l D a cs N (by omega) _ (nI (5 + q)) _) (va_cwS 1 hts gX6_crustIn_X6_isNoPan rfl rfl rfl (by decide +kernel) ⟨Nat.le_of_ble_eq_true rfl, Nat.le_of_ble_eq_true rfl⟩) hK hN2 hw rfl hl.1 (Nat.le_of_ble_eq_true rfl) dX6_crustIn_2 ⟨Nat.le_of_ble_eq_true rfl, Nat.le_of_ble_eq_true rfl⟩) hw hA (fun H locs hw => ?_)
  refine lv_iconst (v := 1) hx hb dX6_crustIn_5 (by decide) ?_
  refine mc_i (mr_V (i := 10) (As := [.int (g_X6_isNoPan (nI (5 + q))), .int 1]) (rest := []) ⟨hx, hb, hml, hown, hts⟩ (zX6_start0 l D a cs N (by omega) _ (g_X6_isNoPan (nI (5 + q))) 1 (m_pan hq)  _) (cwV 2 hts gX6_crustIn_X6_start rfl rfl rfl (by decide +kernel) ⟨Nat.le_of_ble_eq_true rfl, Nat.le_of_ble_eq_true rfl⟩) hK hN2 hw (by omega) mE_o kcX6 rfl hl.1 (Nat.le_of_ble_eq_true rfl) dX6_crustIn_6 ⟨Nat.le_of_ble_eq_true rfl, Nat.le_of_ble_eq_true rfl⟩) hw hA (fun H locs hw => ?_)
  obtain ⟨τ1, eτ1⟩ : ∃ zz : sS, m_thr σ 0 = zz := ⟨_, rfl⟩
  rw [eτ1] at hw
  refine lv_if_ne (tgt := 45) hx hb dX6_crustIn_9 (by decide) (fun c2 => absurd (by decide) c2) (fun c2 => ?_)
  refine lv_aload_n hx hb dX6_crustIn_12 rfl (lv_at hl 0 rfl) ?_
  refine lv_iload_n hx hb dX6_crustIn_13 rfl (lv_at hl 2 rfl) ?_
  refine lv_iconst (v := 0) hx hb dX6_crustIn_14 (by decide) ?_
  refine lv_bipush (v := 9) hx hb dX6_crustIn_15 (by decide) ?_
  refine mc_i (mr_S (As := [.int x, .int 0, .int 9]) (rest := [.ref (a 10)]) ⟨hx, hb, hml, hown, hts⟩ (zX6_isIn l D a cs N (by omega) _ x 0 9 _) (va_cwS 3 hts gX6_crustIn_X6_isIn rfl rfl rfl (by decide +kernel) ⟨Nat.le_of_ble_eq_true rfl, Nat.le_of_ble_eq_true rfl⟩) hK hN2 hw rfl hl.1 (Nat.le_of_ble_eq_true rfl) dX6_crustIn_17 ⟨Nat.le_of_ble_eq_true rfl, Nat.le_of_ble_eq_true rfl⟩) hw hA (fun H locs hw => ?_)
  refine lv_if_eq (tgt := 33) hx hb dX6_crustIn_20 (by decide) (fun c3 => ?_) (fun c3 => absurd hy c3)
  refine lv_iconst (v := 1) hx hb dX6_crustIn_33 (by decide) ?_
  refine lv_goto (tgt := 38) hx hb dX6_crustIn_34 (by decide) ?_
  refine lv_iconst (v := 2) hx hb dX6_crustIn_38 (by decide) ?_
  refine mc_i (mr_V (i := 10) (As := [.int 1, .int 2]) (rest := []) ⟨hx, hb, hml, hown, hts⟩ (zX6_refuse1 l D a cs N (by omega) _ 1 2 (by decide) (by decide) (by subst eτ1; rfl) _) (cwV 2 hts gX6_crustIn_X6_refuse rfl rfl rfl (by decide +kernel) ⟨Nat.le_of_ble_eq_true rfl, Nat.le_of_ble_eq_true rfl⟩) hK hN2 hw (by omega) mE_o kcX6 rfl hl.1 (Nat.le_of_ble_eq_true rfl) dX6_crustIn_39 ⟨Nat.le_of_ble_eq_true rfl, Nat.le_of_ble_eq_true rfl⟩) hw hA (fun H locs hw => ?_)
  obtain ⟨τ4, eτ4⟩ : ∃ zz : sS, m_thr τ1 2 = zz := ⟨_, rfl⟩
  rw [eτ4] at hw
  refine lv_if_eq (tgt := 49) hx hb dX6_crustIn_42 (by decide) (fun c5 => absurd c5 (by decide)) (fun c5 => ?_)
  refine lv_iconst (v := 0) hx hb dX6_crustIn_45 (by decide) ?_
  refine lv_goto (tgt := 56) hx hb dX6_crustIn_46 (by decide) ?_
  refine W.widen (k := 78) (n := 667) (by omega) (by omega) ?_
  exact me_i hx hb hr hlocks hw (by rfl) (by subst eτ4 eτ1; exact m_thr2 _ _ _) dX6_crustIn_56
set_option maxHeartbeats 4000000 in
set_option maxRecDepth 100000 in
theorem zX6_crustIn_3 (l : Launch) (D : va_G) (a : Nat → Nat) (cs : Nat → ClassId) (N : Nat) (hN : 12 ≤ N) (σ : sS) (q : Nat) (hq : q < 3) (x y : Int32) (hy : g_X6_isIn x 0 9 = 1) (hy2 : g_X6_isIn y 0 9 = 0) : mMi l yX6_crustIn wsX6_crustIn ({ frames := 5, cells := 78, slots := 667, locals := 124 }) 78 667 D a cs N [.ref (a 10), .int (nI (5 + q)), .int x, .int y] σ 0 (m_thr σ 2) := by
  intro sz
  refine Met.ofW (cc := cX6_crustIn) (maxL := 4) (ret := (some .int)) (by decide) rfl ?_
  intro p e s m args below meth c s₁ B hml hv
  obtain ⟨rfl, hsz, hv2⟩ := hv
  have hv3 : mB D a cs N σ sz s := ⟨hsz, hv2⟩
  subst hsz
  have hw := mH_start hv3
  obtain ⟨-, -, hK, -, hN2⟩ := hv3
  have hx := B.exec
  have hb := B.bytes
  have hr := B.returns
  have hts := atoms_spec (ws := wsX6_crustIn) B.pre
  have hown : s.vm.findClass RX6 = some m.cls := findClass_of_methodNamed B.named
  have hlocks := B.notSynchronized
  have hA : ∀ q : Nat, s.heap.size ≤ q → mA a N s.heap.size q := mA_new
  have hl := lv_entry ([.ref (a 10), .int (nI (5 + q)), .int x, .int y]) (n := 4) (Nat.le_of_ble_eq_true rfl)
  rw [lg_entry_eq]
  generalize (lg_sl ([.ref (a 10), .int (nI (5 + q)), .int x, .int y]) ++ List.replicate (4 - (lg_sl ([.ref (a 10), .int (nI (5 + q)), .int x, .int y])).length) Slot.unset).toArray = ls at hl ⊢
  have hl : lv_has ls 4 [(0, .ref (a 10)), (1, .int (nI (5 + q))), (2, .int x), (3, .int y)] := hl
  refine lv_aload_n hx hb dX6_crustIn_0 rfl (lv_at hl 0 rfl) ?_
  refine lv_iload_n hx hb dX6_crustIn_1 rfl (lv_at hl 1 rfl) ?_
  refine mc_i (mr_S (As := [.int (nI (5 + q))]) (rest := [.ref (a 10)]) ⟨hx, hb, hml, hown, hts⟩ (zX6_isNoPan l D a cs N (by omega) _ (nI (5 + q)) _) (va_cwS 1 hts gX6_crustIn_X6_isNoPan rfl rfl rfl (by decide +kernel) ⟨Nat.le_of_ble_eq_true rfl, Nat.le_of_ble_eq_true rfl⟩) hK hN2 hw rfl hl.1 (Nat.le_of_ble_eq_true rfl) dX6_crustIn_2 ⟨Nat.le_of_ble_eq_true rfl, Nat.le_of_ble_eq_true rfl⟩) hw hA (fun H locs hw => ?_)
  refine lv_iconst (v := 1) hx hb dX6_crustIn_5 (by decide) ?_
  refine mc_i (mr_V (i := 10) (As := [.int (g_X6_isNoPan (nI (5 + q))), .int 1]) (rest := []) ⟨hx, hb, hml, hown, hts⟩ (zX6_start0 l D a cs N (by omega) _ (g_X6_isNoPan (nI (5 + q))) 1 (m_pan hq)  _) (cwV 2 hts gX6_crustIn_X6_start rfl rfl rfl (by decide +kernel) ⟨Nat.le_of_ble_eq_true rfl, Nat.le_of_ble_eq_true rfl⟩) hK hN2 hw (by omega) mE_o kcX6 rfl hl.1 (Nat.le_of_ble_eq_true rfl) dX6_crustIn_6 ⟨Nat.le_of_ble_eq_true rfl, Nat.le_of_ble_eq_true rfl⟩) hw hA (fun H locs hw => ?_)
  obtain ⟨τ1, eτ1⟩ : ∃ zz : sS, m_thr σ 0 = zz := ⟨_, rfl⟩
  rw [eτ1] at hw
  refine lv_if_ne (tgt := 45) hx hb dX6_crustIn_9 (by decide) (fun c2 => absurd (by decide) c2) (fun c2 => ?_)
  refine lv_aload_n hx hb dX6_crustIn_12 rfl (lv_at hl 0 rfl) ?_
  refine lv_iload_n hx hb dX6_crustIn_13 rfl (lv_at hl 2 rfl) ?_
  refine lv_iconst (v := 0) hx hb dX6_crustIn_14 (by decide) ?_
  refine lv_bipush (v := 9) hx hb dX6_crustIn_15 (by decide) ?_
  refine mc_i (mr_S (As := [.int x, .int 0, .int 9]) (rest := [.ref (a 10)]) ⟨hx, hb, hml, hown, hts⟩ (zX6_isIn l D a cs N (by omega) _ x 0 9 _) (va_cwS 3 hts gX6_crustIn_X6_isIn rfl rfl rfl (by decide +kernel) ⟨Nat.le_of_ble_eq_true rfl, Nat.le_of_ble_eq_true rfl⟩) hK hN2 hw rfl hl.1 (Nat.le_of_ble_eq_true rfl) dX6_crustIn_17 ⟨Nat.le_of_ble_eq_true rfl, Nat.le_of_ble_eq_true rfl⟩) hw hA (fun H locs hw => ?_)
  refine lv_if_eq (tgt := 33) hx hb dX6_crustIn_20 (by decide) (fun c3 => absurd c3 (by rw [hy]; decide)) (fun c3 => ?_)
  refine lv_iload_n hx hb dX6_crustIn_23 rfl (lv_at hl 3 rfl) ?_
  refine lv_iconst (v := 0) hx hb dX6_crustIn_24 (by decide) ?_
  refine lv_bipush (v := 9) hx hb dX6_crustIn_25 (by decide) ?_
  refine mc_i (mr_S (As := [.int y, .int 0, .int 9]) (rest := [.ref (a 10)]) ⟨hx, hb, hml, hown, hts⟩ (zX6_isIn l D a cs N (by omega) _ y 0 9 _) (va_cwS 3 hts gX6_crustIn_X6_isIn rfl rfl rfl (by decide +kernel) ⟨Nat.le_of_ble_eq_true rfl, Nat.le_of_ble_eq_true rfl⟩) hK hN2 hw rfl hl.1 (Nat.le_of_ble_eq_true rfl) dX6_crustIn_27 ⟨Nat.le_of_ble_eq_true rfl, Nat.le_of_ble_eq_true rfl⟩) hw hA (fun H locs hw => ?_)
  refine lv_if_ne (tgt := 37) hx hb dX6_crustIn_30 (by decide) (fun c4 => absurd hy2 c4) (fun c4 => ?_)
  refine lv_iconst (v := 1) hx hb dX6_crustIn_33 (by decide) ?_
  refine lv_goto (tgt := 38) hx hb dX6_crustIn_34 (by decide) ?_
  refine lv_iconst (v := 2) hx hb dX6_crustIn_38 (by decide) ?_
  refine mc_i (mr_V (i := 10) (As := [.int 1, .int 2]) (rest := []) ⟨hx, hb, hml, hown, hts⟩ (zX6_refuse1 l D a cs N (by omega) _ 1 2 (by decide) (by decide) (by subst eτ1; rfl) _) (cwV 2 hts gX6_crustIn_X6_refuse rfl rfl rfl (by decide +kernel) ⟨Nat.le_of_ble_eq_true rfl, Nat.le_of_ble_eq_true rfl⟩) hK hN2 hw (by omega) mE_o kcX6 rfl hl.1 (Nat.le_of_ble_eq_true rfl) dX6_crustIn_39 ⟨Nat.le_of_ble_eq_true rfl, Nat.le_of_ble_eq_true rfl⟩) hw hA (fun H locs hw => ?_)
  obtain ⟨τ5, eτ5⟩ : ∃ zz : sS, m_thr τ1 2 = zz := ⟨_, rfl⟩
  rw [eτ5] at hw
  refine lv_if_eq (tgt := 49) hx hb dX6_crustIn_42 (by decide) (fun c6 => absurd c6 (by decide)) (fun c6 => ?_)
  refine lv_iconst (v := 0) hx hb dX6_crustIn_45 (by decide) ?_
  refine lv_goto (tgt := 56) hx hb dX6_crustIn_46 (by decide) ?_
  refine W.widen (k := 78) (n := 667) (by omega) (by omega) ?_
  exact me_i hx hb hr hlocks hw (by rfl) (by subst eτ5 eτ1; exact m_thr2 _ _ _) dX6_crustIn_56
set_option maxHeartbeats 4000000 in
set_option maxRecDepth 100000 in
theorem zX6_bestGates_1 (l : Launch) (D : va_G) (a : Nat → Nat) (cs : Nat → ClassId) (N : Nat) (hN : 12 ≤ N) (σ : sS) (n x y : Int32) (h0 : g_X6_isIn n 1 9 = 0) : mMi l yX6_bestGates wsX6_bestGates ({ frames := 6, cells := 6912, slots := 66304, locals := 153 }) 6912 66304 D a cs N [.ref (a 10), .int n, .int x, .int y] σ 0 (m_thr σ 1) := by
  intro sz
  refine Met.ofW (cc := cX6_bestGates) (maxL := 4) (ret := (some .int)) (by decide) rfl ?_
  intro p e s m args below meth c s₁ B hml hv
  obtain ⟨rfl, hsz, hv2⟩ := hv
  have hv3 : mB D a cs N σ sz s := ⟨hsz, hv2⟩
  subst hsz
  have hw := mH_start hv3
  obtain ⟨-, -, hK, -, hN2⟩ := hv3
  have hx := B.exec
  have hb := B.bytes
  have hr := B.returns
  have hts := atoms_spec (ws := wsX6_bestGates) B.pre
  have hown : s.vm.findClass RX6 = some m.cls := findClass_of_methodNamed B.named
  have hlocks := B.notSynchronized
  have hA : ∀ q : Nat, s.heap.size ≤ q → mA a N s.heap.size q := mA_new
  have hl := lv_entry ([.ref (a 10), .int n, .int x, .int y]) (n := 4) (Nat.le_of_ble_eq_true rfl)
  rw [lg_entry_eq]
  generalize (lg_sl ([.ref (a 10), .int n, .int x, .int y]) ++ List.replicate (4 - (lg_sl ([.ref (a 10), .int n, .int x, .int y])).length) Slot.unset).toArray = ls at hl ⊢
  have hl : lv_has ls 4 [(0, .ref (a 10)), (1, .int n), (2, .int x), (3, .int y)] := hl
  refine lv_aload_n hx hb dX6_bestGates_0 rfl (lv_at hl 0 rfl) ?_
  refine lv_iload_n hx hb dX6_bestGates_1 rfl (lv_at hl 1 rfl) ?_
  refine lv_iconst (v := 1) hx hb dX6_bestGates_2 (by decide) ?_
  refine lv_bipush (v := 9) hx hb dX6_bestGates_3 (by decide) ?_
  refine mc_i (mr_S (As := [.int n, .int 1, .int 9]) (rest := [.ref (a 10)]) ⟨hx, hb, hml, hown, hts⟩ (zX6_isIn l D a cs N (by omega) _ n 1 9 _) (va_cwS 3 hts gX6_bestGates_X6_isIn rfl rfl rfl (by decide +kernel) ⟨Nat.le_of_ble_eq_true rfl, Nat.le_of_ble_eq_true rfl⟩) hK hN2 hw rfl hl.1 (Nat.le_of_ble_eq_true rfl) dX6_bestGates_5 ⟨Nat.le_of_ble_eq_true rfl, Nat.le_of_ble_eq_true rfl⟩) hw hA (fun H locs hw => ?_)
  refine lv_if_eq (tgt := 31) hx hb dX6_bestGates_8 (by decide) (fun c1 => ?_) (fun c1 => absurd h0 c1)
  refine lv_iconst (v := 1) hx hb dX6_bestGates_31 (by decide) ?_
  refine lv_goto (tgt := 36) hx hb dX6_bestGates_32 (by decide) ?_
  refine lv_iconst (v := 1) hx hb dX6_bestGates_36 (by decide) ?_
  refine mc_i (mr_V (i := 10) (As := [.int 1, .int 1]) (rest := []) ⟨hx, hb, hml, hown, hts⟩ (zX6_start1 l D a cs N (by omega) _ 1 1 (by decide) (by decide)  _) (cwV 2 hts gX6_bestGates_X6_start rfl rfl rfl (by decide +kernel) ⟨Nat.le_of_ble_eq_true rfl, Nat.le_of_ble_eq_true rfl⟩) hK hN2 hw (by omega) mE_o kcX6 rfl hl.1 (Nat.le_of_ble_eq_true rfl) dX6_bestGates_37 ⟨Nat.le_of_ble_eq_true rfl, Nat.le_of_ble_eq_true rfl⟩) hw hA (fun H locs hw => ?_)
  obtain ⟨τ2, eτ2⟩ : ∃ zz : sS, m_thr σ 1 = zz := ⟨_, rfl⟩
  rw [eτ2] at hw
  refine lv_if_eq (tgt := 47) hx hb dX6_bestGates_40 (by decide) (fun c3 => absurd c3 (by decide)) (fun c3 => ?_)
  refine lv_iconst (v := 0) hx hb dX6_bestGates_43 (by decide) ?_
  refine lv_goto (tgt := 54) hx hb dX6_bestGates_44 (by decide) ?_
  refine W.widen (k := 6912) (n := 66304) (by omega) (by omega) ?_
  exact me_i hx hb hr hlocks hw (by rfl) (by subst eτ2; rfl) dX6_bestGates_54
set_option maxHeartbeats 4000000 in
set_option maxRecDepth 100000 in
theorem zX6_bestGates_2 (l : Launch) (D : va_G) (a : Nat → Nat) (cs : Nat → ClassId) (N : Nat) (hN : 12 ≤ N) (σ : sS) (n x y : Int32) (h0 : g_X6_isIn n 1 9 = 1) (h1 : g_X6_isIn x 0 9 = 0) : mMi l yX6_bestGates wsX6_bestGates ({ frames := 6, cells := 6912, slots := 66304, locals := 153 }) 6912 66304 D a cs N [.ref (a 10), .int n, .int x, .int y] σ 0 (m_thr σ 1) := by
  intro sz
  refine Met.ofW (cc := cX6_bestGates) (maxL := 4) (ret := (some .int)) (by decide) rfl ?_
  intro p e s m args below meth c s₁ B hml hv
  obtain ⟨rfl, hsz, hv2⟩ := hv
  have hv3 : mB D a cs N σ sz s := ⟨hsz, hv2⟩
  subst hsz
  have hw := mH_start hv3
  obtain ⟨-, -, hK, -, hN2⟩ := hv3
  have hx := B.exec
  have hb := B.bytes
  have hr := B.returns
  have hts := atoms_spec (ws := wsX6_bestGates) B.pre
  have hown : s.vm.findClass RX6 = some m.cls := findClass_of_methodNamed B.named
  have hlocks := B.notSynchronized
  have hA : ∀ q : Nat, s.heap.size ≤ q → mA a N s.heap.size q := mA_new
  have hl := lv_entry ([.ref (a 10), .int n, .int x, .int y]) (n := 4) (Nat.le_of_ble_eq_true rfl)
  rw [lg_entry_eq]
  generalize (lg_sl ([.ref (a 10), .int n, .int x, .int y]) ++ List.replicate (4 - (lg_sl ([.ref (a 10), .int n, .int x, .int y])).length) Slot.unset).toArray = ls at hl ⊢
  have hl : lv_has ls 4 [(0, .ref (a 10)), (1, .int n), (2, .int x), (3, .int y)] := hl
  refine lv_aload_n hx hb dX6_bestGates_0 rfl (lv_at hl 0 rfl) ?_
  refine lv_iload_n hx hb dX6_bestGates_1 rfl (lv_at hl 1 rfl) ?_
  refine lv_iconst (v := 1) hx hb dX6_bestGates_2 (by decide) ?_
  refine lv_bipush (v := 9) hx hb dX6_bestGates_3 (by decide) ?_
  refine mc_i (mr_S (As := [.int n, .int 1, .int 9]) (rest := [.ref (a 10)]) ⟨hx, hb, hml, hown, hts⟩ (zX6_isIn l D a cs N (by omega) _ n 1 9 _) (va_cwS 3 hts gX6_bestGates_X6_isIn rfl rfl rfl (by decide +kernel) ⟨Nat.le_of_ble_eq_true rfl, Nat.le_of_ble_eq_true rfl⟩) hK hN2 hw rfl hl.1 (Nat.le_of_ble_eq_true rfl) dX6_bestGates_5 ⟨Nat.le_of_ble_eq_true rfl, Nat.le_of_ble_eq_true rfl⟩) hw hA (fun H locs hw => ?_)
  refine lv_if_eq (tgt := 31) hx hb dX6_bestGates_8 (by decide) (fun c1 => absurd c1 (by rw [h0]; decide)) (fun c1 => ?_)
  refine lv_iload_n hx hb dX6_bestGates_11 rfl (lv_at hl 2 rfl) ?_
  refine lv_iconst (v := 0) hx hb dX6_bestGates_12 (by decide) ?_
  refine lv_bipush (v := 9) hx hb dX6_bestGates_13 (by decide) ?_
  refine mc_i (mr_S (As := [.int x, .int 0, .int 9]) (rest := [.ref (a 10)]) ⟨hx, hb, hml, hown, hts⟩ (zX6_isIn l D a cs N (by omega) _ x 0 9 _) (va_cwS 3 hts gX6_bestGates_X6_isIn rfl rfl rfl (by decide +kernel) ⟨Nat.le_of_ble_eq_true rfl, Nat.le_of_ble_eq_true rfl⟩) hK hN2 hw rfl hl.1 (Nat.le_of_ble_eq_true rfl) dX6_bestGates_15 ⟨Nat.le_of_ble_eq_true rfl, Nat.le_of_ble_eq_true rfl⟩) hw hA (fun H locs hw => ?_)
  refine lv_if_eq (tgt := 31) hx hb dX6_bestGates_18 (by decide) (fun c2 => ?_) (fun c2 => absurd h1 c2)
  refine lv_iconst (v := 1) hx hb dX6_bestGates_31 (by decide) ?_
  refine lv_goto (tgt := 36) hx hb dX6_bestGates_32 (by decide) ?_
  refine lv_iconst (v := 1) hx hb dX6_bestGates_36 (by decide) ?_
  refine mc_i (mr_V (i := 10) (As := [.int 1, .int 1]) (rest := []) ⟨hx, hb, hml, hown, hts⟩ (zX6_start1 l D a cs N (by omega) _ 1 1 (by decide) (by decide)  _) (cwV 2 hts gX6_bestGates_X6_start rfl rfl rfl (by decide +kernel) ⟨Nat.le_of_ble_eq_true rfl, Nat.le_of_ble_eq_true rfl⟩) hK hN2 hw (by omega) mE_o kcX6 rfl hl.1 (Nat.le_of_ble_eq_true rfl) dX6_bestGates_37 ⟨Nat.le_of_ble_eq_true rfl, Nat.le_of_ble_eq_true rfl⟩) hw hA (fun H locs hw => ?_)
  obtain ⟨τ3, eτ3⟩ : ∃ zz : sS, m_thr σ 1 = zz := ⟨_, rfl⟩
  rw [eτ3] at hw
  refine lv_if_eq (tgt := 47) hx hb dX6_bestGates_40 (by decide) (fun c4 => absurd c4 (by decide)) (fun c4 => ?_)
  refine lv_iconst (v := 0) hx hb dX6_bestGates_43 (by decide) ?_
  refine lv_goto (tgt := 54) hx hb dX6_bestGates_44 (by decide) ?_
  refine W.widen (k := 6912) (n := 66304) (by omega) (by omega) ?_
  exact me_i hx hb hr hlocks hw (by rfl) (by subst eτ3; rfl) dX6_bestGates_54
set_option maxHeartbeats 4000000 in
set_option maxRecDepth 100000 in
theorem zX6_bestGates_3 (l : Launch) (D : va_G) (a : Nat → Nat) (cs : Nat → ClassId) (N : Nat) (hN : 12 ≤ N) (σ : sS) (n x y : Int32) (h0 : g_X6_isIn n 1 9 = 1) (h1 : g_X6_isIn x 0 9 = 1) (h2 : g_X6_isIn y 0 9 = 0) : mMi l yX6_bestGates wsX6_bestGates ({ frames := 6, cells := 6912, slots := 66304, locals := 153 }) 6912 66304 D a cs N [.ref (a 10), .int n, .int x, .int y] σ 0 (m_thr σ 1) := by
  intro sz
  refine Met.ofW (cc := cX6_bestGates) (maxL := 4) (ret := (some .int)) (by decide) rfl ?_
  intro p e s m args below meth c s₁ B hml hv
  obtain ⟨rfl, hsz, hv2⟩ := hv
  have hv3 : mB D a cs N σ sz s := ⟨hsz, hv2⟩
  subst hsz
  have hw := mH_start hv3
  obtain ⟨-, -, hK, -, hN2⟩ := hv3
  have hx := B.exec
  have hb := B.bytes
  have hr := B.returns
  have hts := atoms_spec (ws := wsX6_bestGates) B.pre
  have hown : s.vm.findClass RX6 = some m.cls := findClass_of_methodNamed B.named
  have hlocks := B.notSynchronized
  have hA : ∀ q : Nat, s.heap.size ≤ q → mA a N s.heap.size q := mA_new
  have hl := lv_entry ([.ref (a 10), .int n, .int x, .int y]) (n := 4) (Nat.le_of_ble_eq_true rfl)
  rw [lg_entry_eq]
  generalize (lg_sl ([.ref (a 10), .int n, .int x, .int y]) ++ List.replicate (4 - (lg_sl ([.ref (a 10), .int n, .int x, .int y])).length) Slot.unset).toArray = ls at hl ⊢
  have hl : lv_has ls 4 [(0, .ref (a 10)), (1, .int n), (2, .int x), (3, .int y)] := hl
  refine lv_aload_n hx hb dX6_bestGates_0 rfl (lv_at hl 0 rfl) ?_
  refine lv_iload_n hx hb dX6_bestGates_1 rfl (lv_at hl 1 rfl) ?_
  refine lv_iconst (v := 1) hx hb dX6_bestGates_2 (by decide) ?_
  refine lv_bipush (v := 9) hx hb dX6_bestGates_3 (by decide) ?_
  refine mc_i (mr_S (As := [.int n, .int 1, .int 9]) (rest := [.ref (a 10)]) ⟨hx, hb, hml, hown, hts⟩ (zX6_isIn l D a cs N (by omega) _ n 1 9 _) (va_cwS 3 hts gX6_bestGates_X6_isIn rfl rfl rfl (by decide +kernel) ⟨Nat.le_of_ble_eq_true rfl, Nat.le_of_ble_eq_true rfl⟩) hK hN2 hw rfl hl.1 (Nat.le_of_ble_eq_true rfl) dX6_bestGates_5 ⟨Nat.le_of_ble_eq_true rfl, Nat.le_of_ble_eq_true rfl⟩) hw hA (fun H locs hw => ?_)
  refine lv_if_eq (tgt := 31) hx hb dX6_bestGates_8 (by decide) (fun c1 => absurd c1 (by rw [h0]; decide)) (fun c1 => ?_)
  refine lv_iload_n hx hb dX6_bestGates_11 rfl (lv_at hl 2 rfl) ?_
  refine lv_iconst (v := 0) hx hb dX6_bestGates_12 (by decide) ?_
  refine lv_bipush (v := 9) hx hb dX6_bestGates_13 (by decide) ?_
  refine mc_i (mr_S (As := [.int x, .int 0, .int 9]) (rest := [.ref (a 10)]) ⟨hx, hb, hml, hown, hts⟩ (zX6_isIn l D a cs N (by omega) _ x 0 9 _) (va_cwS 3 hts gX6_bestGates_X6_isIn rfl rfl rfl (by decide +kernel) ⟨Nat.le_of_ble_eq_true rfl, Nat.le_of_ble_eq_true rfl⟩) hK hN2 hw rfl hl.1 (Nat.le_of_ble_eq_true rfl) dX6_bestGates_15 ⟨Nat.le_of_ble_eq_true rfl, Nat.le_of_ble_eq_true rfl⟩) hw hA (fun H locs hw => ?_)
  refine lv_if_eq (tgt := 31) hx hb dX6_bestGates_18 (by decide) (fun c2 => absurd c2 (by rw [h1]; decide)) (fun c2 => ?_)
  refine lv_iload_n hx hb dX6_bestGates_21 rfl (lv_at hl 3 rfl) ?_
  refine lv_iconst (v := 0) hx hb dX6_bestGates_22 (by decide) ?_
  refine lv_bipush (v := 9) hx hb dX6_bestGates_23 (by decide) ?_
  refine mc_i (mr_S (As := [.int y, .int 0, .int 9]) (rest := [.ref (a 10)]) ⟨hx, hb, hml, hown, hts⟩ (zX6_isIn l D a cs N (by omega) _ y 0 9 _) (va_cwS 3 hts gX6_bestGates_X6_isIn rfl rfl rfl (by decide +kernel) ⟨Nat.le_of_ble_eq_true rfl, Nat.le_of_ble_eq_true rfl⟩) hK hN2 hw rfl hl.1 (Nat.le_of_ble_eq_true rfl) dX6_bestGates_25 ⟨Nat.le_of_ble_eq_true rfl, Nat.le_of_ble_eq_true rfl⟩) hw hA (fun H locs hw => ?_)
  refine lv_if_ne (tgt := 35) hx hb dX6_bestGates_28 (by decide) (fun c3 => absurd h2 c3) (fun c3 => ?_)
  refine lv_iconst (v := 1) hx hb dX6_bestGates_31 (by decide) ?_
  refine lv_goto (tgt := 36) hx hb dX6_bestGates_32 (by decide) ?_
  refine lv_iconst (v := 1) hx hb dX6_bestGates_36 (by decide) ?_
  refine mc_i (mr_V (i := 10) (As := [.int 1, .int 1]) (rest := []) ⟨hx, hb, hml, hown, hts⟩ (zX6_start1 l D a cs N (by omega) _ 1 1 (by decide) (by decide)  _) (cwV 2 hts gX6_bestGates_X6_start rfl rfl rfl (by decide +kernel) ⟨Nat.le_of_ble_eq_true rfl, Nat.le_of_ble_eq_true rfl⟩) hK hN2 hw (by omega) mE_o kcX6 rfl hl.1 (Nat.le_of_ble_eq_true rfl) dX6_bestGates_37 ⟨Nat.le_of_ble_eq_true rfl, Nat.le_of_ble_eq_true rfl⟩) hw hA (fun H locs hw => ?_)
  obtain ⟨τ4, eτ4⟩ : ∃ zz : sS, m_thr σ 1 = zz := ⟨_, rfl⟩
  rw [eτ4] at hw
  refine lv_if_eq (tgt := 47) hx hb dX6_bestGates_40 (by decide) (fun c5 => absurd c5 (by decide)) (fun c5 => ?_)
  refine lv_iconst (v := 0) hx hb dX6_bestGates_43 (by decide) ?_
  refine lv_goto (tgt := 54) hx hb dX6_bestGates_44 (by decide) ?_
  refine W.widen (k := 6912) (n := 66304) (by omega) (by omega) ?_
  exact me_i hx hb hr hlocks hw (by rfl) (by subst eτ4; rfl) dX6_bestGates_54
set_option maxHeartbeats 4000000 in
set_option maxRecDepth 100000 in
theorem zX6_tideOn_1 (l : Launch) (D : va_G) (a : Nat → Nat) (cs : Nat → ClassId) (N : Nat) (hN : 12 ≤ N) (σ : sS) (x y : Int32) (hy : g_X6_isIn x 0 20 = 0) : mMi l yX6_tideOn wsX6_tideOn ({ frames := 3, cells := 0, slots := 0, locals := 68 }) 0 0 D a cs N [.ref (a 10), .int x, .int y] σ 0 (m_thr σ 1) := by
  intro sz
  refine Met.ofW (cc := cX6_tideOn) (maxL := 3) (ret := (some .int)) (by decide) rfl ?_
  intro p e s m args below meth c s₁ B hml hv
  obtain ⟨rfl, hsz, hv2⟩ := hv
  have hv3 : mB D a cs N σ sz s := ⟨hsz, hv2⟩
  subst hsz
  have hw := mH_start hv3
  obtain ⟨-, -, hK, -, hN2⟩ := hv3
  have hx := B.exec
  have hb := B.bytes
  have hr := B.returns
  have hts := atoms_spec (ws := wsX6_tideOn) B.pre
  have hown : s.vm.findClass RX6 = some m.cls := findClass_of_methodNamed B.named
  have hlocks := B.notSynchronized
  have hA : ∀ q : Nat, s.heap.size ≤ q → mA a N s.heap.size q := mA_new
  have hl := lv_entry ([.ref (a 10), .int x, .int y]) (n := 3) (Nat.le_of_ble_eq_true rfl)
  rw [lg_entry_eq]
  generalize (lg_sl ([.ref (a 10), .int x, .int y]) ++ List.replicate (3 - (lg_sl ([.ref (a 10), .int x, .int y])).length) Slot.unset).toArray = ls at hl ⊢
  have hl : lv_has ls 3 [(0, .ref (a 10)), (1, .int x), (2, .int y)] := hl
  refine lv_aload_n hx hb dX6_tideOn_0 rfl (lv_at hl 0 rfl) ?_
  refine lv_iload_n hx hb dX6_tideOn_1 rfl (lv_at hl 1 rfl) ?_
  refine lv_iconst (v := 0) hx hb dX6_tideOn_2 (by decide) ?_
  refine lv_bipush (v := 20) hx hb dX6_tideOn_3 (by decide) ?_
  refine mc_i (mr_S (As := [.int x, .int 0, .int 20]) (rest := [.ref (a 10)]) ⟨hx, hb, hml, hown, hts⟩ (zX6_isIn l D a cs N (by omega) _ x 0 20 _) (va_cwS 3 hts gX6_tideOn_X6_isIn rfl rfl rfl (by decide +kernel) ⟨Nat.le_of_ble_eq_true rfl, Nat.le_of_ble_eq_true rfl⟩) hK hN2 hw rfl hl.1 (Nat.le_of_ble_eq_true rfl) dX6_tideOn_5 ⟨Nat.le_of_ble_eq_true rfl, Nat.le_of_ble_eq_true rfl⟩) hw hA (fun H locs hw => ?_)
  refine lv_if_ne (tgt := 15) hx hb dX6_tideOn_8 (by decide) (fun c1 => absurd hy c1) (fun c1 => ?_)
  refine lv_iconst (v := 1) hx hb dX6_tideOn_11 (by decide) ?_
  refine lv_goto (tgt := 16) hx hb dX6_tideOn_12 (by decide) ?_
  refine lv_iconst (v := 1) hx hb dX6_tideOn_16 (by decide) ?_
  refine mc_i (mr_V (i := 10) (As := [.int 1, .int 1]) (rest := []) ⟨hx, hb, hml, hown, hts⟩ (zX6_start1 l D a cs N (by omega) _ 1 1 (by decide) (by decide)  _) (cwV 2 hts gX6_tideOn_X6_start rfl rfl rfl (by decide +kernel) ⟨Nat.le_of_ble_eq_true rfl, Nat.le_of_ble_eq_true rfl⟩) hK hN2 hw (by omega) mE_o kcX6 rfl hl.1 (Nat.le_of_ble_eq_true rfl) dX6_tideOn_17 ⟨Nat.le_of_ble_eq_true rfl, Nat.le_of_ble_eq_true rfl⟩) hw hA (fun H locs hw => ?_)
  obtain ⟨τ2, eτ2⟩ : ∃ zz : sS, m_thr σ 1 = zz := ⟨_, rfl⟩
  rw [eτ2] at hw
  refine lv_if_eq (tgt := 27) hx hb dX6_tideOn_20 (by decide) (fun c3 => absurd c3 (by decide)) (fun c3 => ?_)
  refine lv_iconst (v := 0) hx hb dX6_tideOn_23 (by decide) ?_
  refine lv_goto (tgt := 33) hx hb dX6_tideOn_24 (by decide) ?_
  exact me_i hx hb hr hlocks hw (by rfl) (by subst eτ2; rfl) dX6_tideOn_33
