theorem zX1_read (l : Launch) (D : va_G) (a : Nat → Nat) (cs : Nat → ClassId) (σ : sS) (i : Nat) (hi : 5 ≤ i ∧ i < 21) (f : Nat → Int32) (k : Nat) (hk : k < 11) : sMi l yX1_read wsX1_read ({ frames := 2, cells := 0, slots := 0, locals := 45 }) D a cs [.ref (a i), .int (nI k)] (va_up σ i f) (f_X1_read f k) (va_up σ i f) := by
  rcases (show k = 0 ∨ k = 1 ∨ k = 2 ∨ k = 3 ∨ k = 4 ∨ k = 5 ∨ k = 6 ∨ k = 7 ∨ k = 8 ∨ k = 9 ∨ k = 10 by omega) with rfl | rfl | rfl | rfl | rfl | rfl | rfl | rfl | rfl | rfl | rfl
  · exact zX1_read_0 l D a cs σ i hi f
  · exact zX1_read_1 l D a cs σ i hi f
  · exact zX1_read_2 l D a cs σ i hi f
  · exact zX1_read_3 l D a cs σ i hi f
  · exact zX1_read_4 l D a cs σ i hi f
  · exact zX1_read_5 l D a cs σ i hi f
  · exact zX1_read_6 l D a cs σ i hi f
  · exact zX1_read_7 l D a cs σ i hi f
  · exact zX1_read_8 l D a cs σ i hi f
  · exact zX1_read_9 l D a cs σ i hi f
  · exact zX1_read_10 l D a cs σ i hi f
theorem zX0_read (l : Launch) (D : va_G) (a : Nat → Nat) (cs : Nat → ClassId) (σ : sS) (j : Nat) (hj6 : j < 6) (k : Nat) (hk : k < 6) : sMi l yX0_read wsX0_read ({ frames := 2, cells := 0, slots := 0, locals := 46 }) D a cs [.ref (a (22 + j)), .int (nI k)] σ (f_X0_read (σ (22 + j)) k) σ := by
  rcases (show k = 0 ∨ k = 1 ∨ k = 2 ∨ k = 3 ∨ k = 4 ∨ k = 5 by omega) with rfl | rfl | rfl | rfl | rfl | rfl
  · exact zX0_read_0 l D a cs σ j hj6
  · exact zX0_read_1 l D a cs σ j hj6
  · exact zX0_read_2 l D a cs σ j hj6
  · exact zX0_read_3 l D a cs σ j hj6
  · exact zX0_read_4 l D a cs σ j hj6
  · exact zX0_read_5 l D a cs σ j hj6
theorem mX2_sumOfPonds_0 : (Cond.fieldLink RX2 11 "SaltRow$Row" "ponds" "[LSaltRow$Pond;") ∈ wsX2_sumOfPonds := by decide +kernel
theorem iX2_sumOfPonds_X2 : ∀ w ∈ wsX20, w ∈ wsX2_sumOfPonds := by decide +kernel
set_option maxHeartbeats 4000000 in
set_option maxRecDepth 100000 in
theorem zX2_sumOfPonds (l : Launch) (D : va_G) (a : Nat → Nat) (cs : Nat → ClassId) (σ : sS) (r : Nat) (hr2 : r < 2)  (w : Nat) (hw11 : w < 11) : sMi l yX2_sumOfPonds wsX2_sumOfPonds ({ frames := 3, cells := 0, slots := 0, locals := 66 }) D a cs [.ref (a (1 + r)), .int (nI w)] σ (f_X2_sumOfPonds σ r w) σ := by
  intro sz
  refine Met.ofW (cc := cX2_sumOfPonds) (maxL := 4) (ret := (some .int)) (by decide) rfl ?_
  intro p e s m args below meth c s₁ B hml hv
  obtain ⟨rfl, hsz, hv2⟩ := hv
  have hv3 : sB D a cs σ sz s := ⟨hsz, hv2⟩
  subst hsz
  have hw := sH_start hv3
  obtain ⟨-, -, hK, -, hN⟩ := hv3
  have hx := B.exec
  have hb := B.bytes
  have hr := B.returns
  have hts := atoms_spec (ws := wsX2_sumOfPonds) B.pre
  have hown : s.vm.findClass RX2 = some m.cls := findClass_of_methodNamed B.named
  have hlocks := B.notSynchronized
  have hA : ∀ q : Nat, s.heap.size ≤ q → sA a s.heap.size q := sA_new
  have hl := lv_entry ([.ref (a (1 + r)), .int (nI w)]) (n := 4) (Nat.le_of_ble_eq_true rfl)
  rw [lg_entry_eq]
  generalize (lg_sl ([.ref (a (1 + r)), .int (nI w)]) ++ List.replicate (4 - (lg_sl ([.ref (a (1 + r)), .int (nI w)])).length) Slot.unset).toArray = ls at hl ⊢
  have hl : lv_has ls 4 [(0, .ref (a (1 + r))), (1, .int (nI w))] := hl
  refine lv_iconst (v := 0) hx hb dX2_sumOfPonds_0 (by decide) ?_
  refine lv_istore_n (lv' := [(2, .int 0), (0, .ref (a (1 + r))), (1, .int (nI w))]) hx hb dX2_sumOfPonds_1 rfl hl (by decide) rfl (fun ls hl => ?_)
  refine lv_iconst (v := 0) hx hb dX2_sumOfPonds_2 (by decide) ?_
  refine lv_istore_n (lv' := [(3, .int 0), (2, .int 0), (0, .ref (a (1 + r))), (1, .int (nI w))]) hx hb dX2_sumOfPonds_3 rfl hl (by decide) rfl (fun ls hl => ?_)
  have loop : ∀ (Q : State → Prop) (n : Nat) (k : Nat) (τ : sS) (v : Int32) (H : Heap) (locs : List Loc) (ls : Array Slot), k + n = 8 → sH D a cs (sA a s.heap.size) s.heap τ H locs → lv_has ls 4 [(0, .ref (a (1 + r))), (1, .int (nI w)), (2, .int v), (3, .int (nI k))] → (∀ (H : Heap) (locs : List Loc) (ls : Array Slot), sH D a cs (sA a s.heap.size) s.heap (τ) H locs → lv_has ls 4 [(2, .int (f_X2_psum w r τ n k v))] → W p l e { frames := 3, cells := 0, slots := 0, locals := 66 } s m #[Value.ref (a (1 + r)), Value.int (nI w)] below meth c H locs 0 0 Q (F0 m 29 ls [])) → W p l e { frames := 3, cells := 0, slots := 0, locals := 66 } s m #[Value.ref (a (1 + r)), Value.int (nI w)] below meth c H locs 0 0 Q (F0 m 4 ls []) := by
    intro Q n
    induction n with
    | zero =>
      intro k τ v H locs ls hkn hw hl kont
      refine lv_iload_n hx hb dX2_sumOfPonds_4 rfl (lv_at hl 3 rfl) ?_
      refine lv_bipush (v := 8) hx hb dX2_sumOfPonds_5 (by decide) ?_
      refine lv_icmp_ge (tgt := 29) hx hb dX2_sumOfPonds_7 (by decide) (fun c1 => ?_) (fun c1 => absurd (by rw [show k = 8 by omega]; decide) c1)
      exact kont H locs ls hw (lv_sub hl [2] rfl)
    | succ n ih =>
      intro k τ v H locs ls hkn hw hl kont
      refine lv_iload_n hx hb dX2_sumOfPonds_4 rfl (lv_at hl 3 rfl) ?_
      refine lv_bipush (v := 8) hx hb dX2_sumOfPonds_5 (by decide) ?_
      refine lv_icmp_ge (tgt := 29) hx hb dX2_sumOfPonds_7 (by decide) (fun c2 => absurd c2 (nI_ge (a := k) (b := 8) (by omega) (by decide))) (fun c2 => ?_)
      refine lv_iload_n hx hb dX2_sumOfPonds_10 rfl (lv_at hl 2 rfl) ?_
      refine lv_aload_n hx hb dX2_sumOfPonds_11 rfl (lv_at hl 0 rfl) ?_
      refine sg_rq (r := r) hx hb hts iX2_sumOfPonds_X2 hown hK hw hr2 (hts _ mX2_sumOfPonds_0) dX2_sumOfPonds_12 ?_
      refine lv_iload_n hx hb dX2_sumOfPonds_15 rfl (lv_at hl 3 rfl) ?_
      refine sg_q (r := r) (k := k) hx hb hK hw hr2 (by omega) rfl dX2_sumOfPonds_16 ?_
      refine lv_iload_n hx hb dX2_sumOfPonds_17 rfl (lv_at hl 1 rfl) ?_
      have hw := sH_foc (i := 5 + 8 * r + k) hw
      refine sc_i (sr_V (i := 5 + 8 * r + k) (As := [.int (nI w)]) (rest := [.int v]) ⟨hx, hb, hml, hown, hts⟩ (zX1_read l D a cs _ (5 + 8 * r + k) (by omega) _ w (by omega) _) (cwV 1 hts gX2_sumOfPonds_X1_read rfl rfl rfl (by decide +kernel) ⟨Nat.le_of_ble_eq_true rfl, Nat.le_of_ble_eq_true rfl⟩) hK hN hw (by omega) (sE_p (by omega)) kcX1 rfl hl.1 (Nat.le_of_ble_eq_true rfl) dX2_sumOfPonds_18 ⟨Nat.le_of_ble_eq_true rfl, Nat.le_of_ble_eq_true rfl⟩) hw hA (fun H locs hw => ?_)
      have hw := sH_unf hw
      refine lv_iadd hx hb dX2_sumOfPonds_21 ?_
      refine lw_topi (fun x3 ex3 => ?_)
      refine lv_istore_n (lv' := [(2, .int x3), (0, .ref (a (1 + r))), (1, .int (nI w)), (3, .int (nI k))]) hx hb dX2_sumOfPonds_22 rfl hl (by decide) rfl (fun ls hl => ?_)
      refine lv_iinc (v := nI (k + 1)) (lv' := [(3, .int (nI (k + 1))), (2, .int x3), (0, .ref (a (1 + r))), (1, .int (nI w))]) hx hb dX2_sumOfPonds_23 hl (k := 3) rfl (nI_1 k) (by decide) rfl (fun ls hl => ?_)
      refine lv_goto (tgt := 4) hx hb dX2_sumOfPonds_26 (by decide) ?_
      have hstep : τ = τ := by
        subst ex3; rfl
      have hval0 : f_X2_psum w r τ (n + 1) k v = f_X2_psum w r τ n (k + 1) x3 := by
        subst ex3; rfl
      exact ih (k + 1) τ x3 H locs ls (by omega) hw (lv_sub hl [2, 3, 1, 0] rfl) (fun H locs ls hw hl => kont H locs ls (by rw [hstep]; exact hw) (by rw [hval0]; exact hl))
  refine loop _ 8 0 σ 0 _ _ _ (by decide) hw (lv_sub hl [2, 3, 1, 0] rfl) (fun H locs ls hw hl => ?_)
  obtain ⟨τ4, eτ4⟩ : ∃ zz : sS, σ = zz := ⟨_, rfl⟩
  rw [eτ4] at hw
  refine lv_iload_n hx hb dX2_sumOfPonds_29 rfl (lv_at hl 0 rfl) ?_
  exact se_i hx hb hr hlocks hw (by subst eτ4; exact rfl) (by subst eτ4; rfl) dX2_sumOfPonds_30
set_option maxHeartbeats 4000000 in
set_option maxRecDepth 100000 in
theorem zX3_needPond (l : Launch) (D : va_G) (a : Nat → Nat) (cs : Nat → ClassId) (σ : sS) (k : Nat) (hk : k < 8) : sMv l yX3_needPond wsX3_needPond ({ frames := 0, cells := 0, slots := 0, locals := 0 }) D a cs [.ref (a 0), .int (nI k)] σ σ := by
  intro sz
  refine Met.ofW (cc := cX3_needPond) (maxL := 2) (ret := none) (by decide) rfl ?_
  intro p e s m args below meth c s₁ B hml hv
  obtain ⟨rfl, hsz, hv2⟩ := hv
  have hv3 : sB D a cs σ sz s := ⟨hsz, hv2⟩
  subst hsz
  have hw := sH_start hv3
  obtain ⟨-, -, hK, -, hN⟩ := hv3
  have hx := B.exec
  have hb := B.bytes
  have hr := B.returns
  have hts := atoms_spec (ws := wsX3_needPond) B.pre
  have hown : s.vm.findClass RX3 = some m.cls := findClass_of_methodNamed B.named
  have hlocks := B.notSynchronized
  have hA : ∀ q : Nat, s.heap.size ≤ q → sA a s.heap.size q := sA_new
  have hl := lv_entry ([.ref (a 0), .int (nI k)]) (n := 2) (Nat.le_of_ble_eq_true rfl)
  rw [lg_entry_eq]
  generalize (lg_sl ([.ref (a 0), .int (nI k)]) ++ List.replicate (2 - (lg_sl ([.ref (a 0), .int (nI k)])).length) Slot.unset).toArray = ls at hl ⊢
  have hl : lv_has ls 2 [(0, .ref (a 0)), (1, .int (nI k))] := hl
  refine lv_iload_n hx hb dX3_needPond_0 rfl (lv_at hl 1 rfl) ?_
  refine lv_if_lt (tgt := 10) hx hb dX3_needPond_1 (by decide) (fun c1 => absurd c1 (nI_pos (n := k) (by omega))) (fun c1 => ?_)
  refine lv_iload_n hx hb dX3_needPond_4 rfl (lv_at hl 1 rfl) ?_
  refine lv_bipush (v := 8) hx hb dX3_needPond_5 (by decide) ?_
  refine lv_icmp_lt (tgt := 21) hx hb dX3_needPond_7 (by decide) (fun c2 => ?_) (fun c2 => absurd (nI_lt (a := k) (b := 8) (by omega) (by decide)) c2)
  exact se_v hx hb hr hlocks hw (by rfl) dX3_needPond_21
set_option maxHeartbeats 4000000 in
set_option maxRecDepth 100000 in
theorem zX3_needPan (l : Launch) (D : va_G) (a : Nat → Nat) (cs : Nat → ClassId) (σ : sS) (q : Nat) (hq : q < 3) : sMv l yX3_needPan wsX3_needPan ({ frames := 0, cells := 0, slots := 0, locals := 0 }) D a cs [.ref (a 0), .int (nI (5 + q))] σ σ := by
  intro sz
  refine Met.ofW (cc := cX3_needPan) (maxL := 2) (ret := none) (by decide) rfl ?_
  intro p e s m args below meth c s₁ B hml hv
  obtain ⟨rfl, hsz, hv2⟩ := hv
  have hv3 : sB D a cs σ sz s := ⟨hsz, hv2⟩
  subst hsz
  have hw := sH_start hv3
  obtain ⟨-, -, hK, -, hN⟩ := hv3
  have hx := B.exec
  have hb := B.bytes
  have hr := B.returns
  have hts := atoms_spec (ws := wsX3_needPan) B.pre
  have hown : s.vm.findClass RX3 = some m.cls := findClass_of_methodNamed B.named
  have hlocks := B.notSynchronized
  have hA : ∀ q : Nat, s.heap.size ≤ q → sA a s.heap.size q := sA_new
  have hl := lv_entry ([.ref (a 0), .int (nI (5 + q))]) (n := 2) (Nat.le_of_ble_eq_true rfl)
  rw [lg_entry_eq]
  generalize (lg_sl ([.ref (a 0), .int (nI (5 + q))]) ++ List.replicate (2 - (lg_sl ([.ref (a 0), .int (nI (5 + q))])).length) Slot.unset).toArray = ls at hl ⊢
  have hl : lv_has ls 2 [(0, .ref (a 0)), (1, .int (nI (5 + q)))] := hl
  refine lv_iload_n hx hb dX3_needPan_0 rfl (lv_at hl 1 rfl) ?_
  refine lv_iconst (v := 5) hx hb dX3_needPan_1 (by decide) ?_
  refine lv_icmp_lt (tgt := 11) hx hb dX3_needPan_2 (by decide) (fun c1 => absurd c1 (nI_nlt (a := 5 + q) (b := 5) (by omega) (by omega))) (fun c1 => ?_)
  refine lv_iload_n hx hb dX3_needPan_5 rfl (lv_at hl 1 rfl) ?_
  refine lv_bipush (v := 8) hx hb dX3_needPan_6 (by decide) ?_
  refine lv_icmp_lt (tgt := 22) hx hb dX3_needPan_8 (by decide) (fun c2 => ?_) (fun c2 => absurd (nI_lt (a := 5 + q) (b := 8) (by omega) (by decide)) c2)
  exact se_v hx hb hr hlocks hw (by rfl) dX3_needPan_22
theorem mX3_needFamily_0 : (Cond.fieldLink RX3 129 "SaltRow" "familyCount" "I") ∈ wsX3_needFamily := by decide +kernel
theorem iX3_needFamily_X3 : ∀ w ∈ wsX30, w ∈ wsX3_needFamily := by decide +kernel
set_option maxHeartbeats 4000000 in
set_option maxRecDepth 100000 in
theorem zX3_needFamily (l : Launch) (D : va_G) (a : Nat → Nat) (cs : Nat → ClassId) (σ : sS) (j : Nat) (hj6 : j < 6) (hj : nI j < σ 0 3) : sMv l yX3_needFamily wsX3_needFamily ({ frames := 0, cells := 0, slots := 0, locals := 0 }) D a cs [.ref (a 0), .int (nI j)] σ σ := by
  intro sz
  refine Met.ofW (cc := cX3_needFamily) (maxL := 2) (ret := none) (by decide) rfl ?_
  intro p e s m args below meth c s₁ B hml hv
  obtain ⟨rfl, hsz, hv2⟩ := hv
  have hv3 : sB D a cs σ sz s := ⟨hsz, hv2⟩
  subst hsz
  have hw := sH_start hv3
  obtain ⟨-, -, hK, -, hN⟩ := hv3
  have hx := B.exec
  have hb := B.bytes
  have hr := B.returns
  have hts := atoms_spec (ws := wsX3_needFamily) B.pre
  have hown : s.vm.findClass RX3 = some m.cls := findClass_of_methodNamed B.named
  have hlocks := B.notSynchronized
  have hA : ∀ q : Nat, s.heap.size ≤ q → sA a s.heap.size q := sA_new
  have hl := lv_entry ([.ref (a 0), .int (nI j)]) (n := 2) (Nat.le_of_ble_eq_true rfl)
  rw [lg_entry_eq]
  generalize (lg_sl ([.ref (a 0), .int (nI j)]) ++ List.replicate (2 - (lg_sl ([.ref (a 0), .int (nI j)])).length) Slot.unset).toArray = ls at hl ⊢
  have hl : lv_has ls 2 [(0, .ref (a 0)), (1, .int (nI j))] := hl
  refine lv_iload_n hx hb dX3_needFamily_0 rfl (lv_at hl 1 rfl) ?_
  refine lv_if_lt (tgt := 12) hx hb dX3_needFamily_1 (by decide) (fun c1 => absurd c1 (nI_pos (n := j) (by omega))) (fun c1 => ?_)
  refine lv_iload_n hx hb dX3_needFamily_4 rfl (lv_at hl 1 rfl) ?_
  refine lv_aload_n hx hb dX3_needFamily_5 rfl (lv_at hl 0 rfl) ?_
  refine sg_o hx hb hts iX3_needFamily_X3 hown hK hw 3 (by decide) (hts _ mX3_needFamily_0) dX3_needFamily_6 ?_
  refine lv_icmp_lt (tgt := 23) hx hb dX3_needFamily_9 (by decide) (fun c2 => ?_) (fun c2 => absurd hj c2)
  exact se_v hx hb hr hlocks hw (by rfl) dX3_needFamily_23
set_option maxHeartbeats 4000000 in
set_option maxRecDepth 100000 in
theorem zX3_needWeather (l : Launch) (D : va_G) (a : Nat → Nat) (cs : Nat → ClassId) (σ : sS) (x y : Int32) (hx0 : ¬ x < 0) (hx9 : x ≤ 9) (hy0 : ¬ y < 0) (hy9 : y ≤ 9) : sMv l yX3_needWeather wsX3_needWeather ({ frames := 0, cells := 0, slots := 0, locals := 0 }) D a cs [.ref (a 0), .int x, .int y] σ σ := by
  intro sz
  refine Met.ofW (cc := cX3_needWeather) (maxL := 3) (ret := none) (by decide) rfl ?_
  intro p e s m args below meth c s₁ B hml hv
  obtain ⟨rfl, hsz, hv2⟩ := hv
  have hv3 : sB D a cs σ sz s := ⟨hsz, hv2⟩
  subst hsz
  have hw := sH_start hv3
  obtain ⟨-, -, hK, -, hN⟩ := hv3
  have hx := B.exec
  have hb := B.bytes
  have hr := B.returns
  have hts := atoms_spec (ws := wsX3_needWeather) B.pre
  have hown : s.vm.findClass RX3 = some m.cls := findClass_of_methodNamed B.named
  have hlocks := B.notSynchronized
  have hA : ∀ q : Nat, s.heap.size ≤ q → sA a s.heap.size q := sA_new
  have hl := lv_entry ([.ref (a 0), .int x, .int y]) (n := 3) (Nat.le_of_ble_eq_true rfl)
  rw [lg_entry_eq]
  generalize (lg_sl ([.ref (a 0), .int x, .int y]) ++ List.replicate (3 - (lg_sl ([.ref (a 0), .int x, .int y])).length) Slot.unset).toArray = ls at hl ⊢
  have hl : lv_has ls 3 [(0, .ref (a 0)), (1, .int x), (2, .int y)] := hl
  refine lv_iload_n hx hb dX3_needWeather_0 rfl (lv_at hl 1 rfl) ?_
  refine lv_if_lt (tgt := 10) hx hb dX3_needWeather_1 (by decide) (fun c1 => absurd c1 hx0) (fun c1 => ?_)
  refine lv_iload_n hx hb dX3_needWeather_4 rfl (lv_at hl 1 rfl) ?_
  refine lv_bipush (v := 9) hx hb dX3_needWeather_5 (by decide) ?_
  refine lv_icmp_le (tgt := 21) hx hb dX3_needWeather_7 (by decide) (fun c2 => ?_) (fun c2 => absurd hx9 c2)
  refine lv_iload_n hx hb dX3_needWeather_21 rfl (lv_at hl 2 rfl) ?_
  refine lv_if_lt (tgt := 31) hx hb dX3_needWeather_22 (by decide) (fun c3 => absurd c3 hy0) (fun c3 => ?_)
  refine lv_iload_n hx hb dX3_needWeather_25 rfl (lv_at hl 2 rfl) ?_
  refine lv_bipush (v := 9) hx hb dX3_needWeather_26 (by decide) ?_
  refine lv_icmp_le (tgt := 42) hx hb dX3_needWeather_28 (by decide) (fun c4 => ?_) (fun c4 => absurd hy9 c4)
  exact se_v hx hb hr hlocks hw (by rfl) dX3_needWeather_42
theorem mX3_area_0 : (Cond.fieldLink RX3 10 "SaltRow" "row" "LSaltRow$Row;") ∈ wsX3_area := by decide +kernel
theorem iX3_area_X3 : ∀ w ∈ wsX30, w ∈ wsX3_area := by decide +kernel
theorem mX3_area_2 : (Cond.fieldLink RX3 37 "SaltRow$Row" "day" "I") ∈ wsX3_area := by decide +kernel
theorem iX3_area_X2 : ∀ w ∈ wsX20, w ∈ wsX3_area := by decide +kernel
theorem mX3_area_4 : (Cond.fieldLink RX3 46 "SaltRow$Row" "ponds" "[LSaltRow$Pond;") ∈ wsX3_area := by decide +kernel
theorem mX3_area_5 : (Cond.fieldLink RX3 50 "SaltRow$Pond" "area" "I") ∈ wsX3_area := by decide +kernel
theorem iX3_area_X1 : ∀ w ∈ wsX10, w ∈ wsX3_area := by decide +kernel
set_option maxHeartbeats 4000000 in
set_option maxRecDepth 100000 in
theorem zX3_area (l : Launch) (D : va_G) (a : Nat → Nat) (cs : Nat → ClassId) (σ : sS) (k : Nat) (hk : k < 8) (x : Int32) (hx1 : ¬ x < 1) (hx9 : x ≤ 9) (hd : σ (1 + 0) 1 ≤ 0) : sMi l yX3_area wsX3_area ({ frames := 1, cells := 0, slots := 0, locals := 21 }) D a cs [.ref (a 0), .int (nI k), .int x] σ (σ (5 + 8 * 0 + k) 0) (va_up σ (5 + 8 * 0 + k) (upd (σ (5 + 8 * 0 + k)) 0 x)) := by
  intro sz
  refine Met.ofW (cc := cX3_area) (maxL := 4) (ret := (some .int)) (by decide) rfl ?_
  intro p e s m args below meth c s₁ B hml hv
  obtain ⟨rfl, hsz, hv2⟩ := hv
  have hv3 : sB D a cs σ sz s := ⟨hsz, hv2⟩
  subst hsz
  have hw := sH_start hv3
  obtain ⟨-, -, hK, -, hN⟩ := hv3
  have hx := B.exec
  have hb := B.bytes
  have hr := B.returns
  have hts := atoms_spec (ws := wsX3_area) B.pre
  have hown : s.vm.findClass RX3 = some m.cls := findClass_of_methodNamed B.named
  have hlocks := B.notSynchronized
  have hA : ∀ q : Nat, s.heap.size ≤ q → sA a s.heap.size q := sA_new
  have hl := lv_entry ([.ref (a 0), .int (nI k), .int x]) (n := 4) (Nat.le_of_ble_eq_true rfl)
  rw [lg_entry_eq]
  generalize (lg_sl ([.ref (a 0), .int (nI k), .int x]) ++ List.replicate (4 - (lg_sl ([.ref (a 0), .int (nI k), .int x])).length) Slot.unset).toArray = ls at hl ⊢
  have hl : lv_has ls 4 [(0, .ref (a 0)), (1, .int (nI k)), (2, .int x)] := hl
  refine lv_aload_n hx hb dX3_area_0 rfl (lv_at hl 0 rfl) ?_
  refine lv_iload_n hx hb dX3_area_1 rfl (lv_at hl 1 rfl) ?_
  refine sc_v (sr_V (i := 0) (As := [.int (nI k)]) (rest := []) ⟨hx, hb, hml, hown, hts⟩ (zX3_needPond l D a cs _ k (by omega) _) (cwV 1 hts gX3_area_X3_needPond rfl rfl rfl (by decide +kernel) ⟨Nat.le_of_ble_eq_true rfl, Nat.le_of_ble_eq_true rfl⟩) hK hN hw (by omega) sE_o kcX3 rfl hl.1 (Nat.le_of_ble_eq_true rfl) dX3_area_2 ⟨Nat.le_of_ble_eq_true rfl, Nat.le_of_ble_eq_true rfl⟩) hw hA (fun H locs hw => ?_)
  refine lv_iload_n hx hb dX3_area_5 rfl (lv_at hl 2 rfl) ?_
  refine lv_iconst (v := 1) hx hb dX3_area_6 (by decide) ?_
  refine lv_icmp_lt (tgt := 16) hx hb dX3_area_7 (by decide) (fun c1 => absurd c1 hx1) (fun c1 => ?_)
  refine lv_iload_n hx hb dX3_area_10 rfl (lv_at hl 2 rfl) ?_
  refine lv_bipush (v := 9) hx hb dX3_area_11 (by decide) ?_
  refine lv_icmp_le (tgt := 26) hx hb dX3_area_13 (by decide) (fun c2 => ?_) (fun c2 => absurd hx9 c2)
  refine lv_aload_n hx hb dX3_area_26 rfl (lv_at hl 0 rfl) ?_
  refine sg_oq hx hb hts iX3_area_X3 hown hK hw 0 (Or.inl ⟨rfl, rfl⟩) (hts _ mX3_area_0) dX3_area_27 ?_
  refine sg_r (r := 0) hx hb hts iX3_area_X2 hown hK hw (by omega) 1 (by decide) (hts _ mX3_area_2) dX3_area_30 ?_
  refine lv_if_le (tgt := 46) hx hb dX3_area_33 (by decide) (fun c3 => ?_) (fun c3 => absurd hd c3)
  refine lv_aload_n hx hb dX3_area_46 rfl (lv_at hl 0 rfl) ?_
  refine sg_oq hx hb hts iX3_area_X3 hown hK hw 0 (Or.inl ⟨rfl, rfl⟩) (hts _ mX3_area_0) dX3_area_47 ?_
  refine sg_rq (r := 0) hx hb hts iX3_area_X2 hown hK hw (by omega) (hts _ mX3_area_4) dX3_area_50 ?_
  refine lv_iload_n hx hb dX3_area_53 rfl (lv_at hl 1 rfl) ?_
  refine sg_q (r := 0) (k := k) hx hb hK hw (by omega) (by omega) rfl dX3_area_54 ?_
  refine sg_p hx hb hts iX3_area_X1 hown hK hw (by omega) 0 (by decide) (hts _ mX3_area_5) dX3_area_55 ?_
  refine lv_istore_n (lv' := [(3, .int (σ (5 + 8 * 0 + k) 0)), (0, .ref (a 0)), (1, .int (nI k)), (2, .int x)]) hx hb dX3_area_58 rfl hl (by decide) rfl (fun ls hl => ?_)
  refine lv_aload_n hx hb dX3_area_59 rfl (lv_at hl 1 rfl) ?_
  refine sg_oq hx hb hts iX3_area_X3 hown hK hw 0 (Or.inl ⟨rfl, rfl⟩) (hts _ mX3_area_0) dX3_area_60 ?_
  refine sg_rq (r := 0) hx hb hts iX3_area_X2 hown hK hw (by omega) (hts _ mX3_area_4) dX3_area_63 ?_
  refine lv_iload_n hx hb dX3_area_66 rfl (lv_at hl 2 rfl) ?_
  refine sg_q (r := 0) (k := k) hx hb hK hw (by omega) (by omega) rfl dX3_area_67 ?_
  refine lv_iload_n hx hb dX3_area_68 rfl (lv_at hl 3 rfl) ?_
  refine sp_p hx hb hts iX3_area_X1 hown hK hw (by omega) 0 (by decide) (hts _ mX3_area_5) dX3_area_69 (fun H locs hw => ?_)
  obtain ⟨τ4, eτ4⟩ : ∃ zz : sS, va_up σ (5 + 8 * 0 + k) (upd (σ (5 + 8 * 0 + k)) 0 x) = zz := ⟨_, rfl⟩
  rw [eτ4] at hw
  refine lv_iload_n hx hb dX3_area_72 rfl (lv_at hl 0 rfl) ?_
  exact se_i hx hb hr hlocks hw (by subst eτ4; exact rfl) (by subst eτ4; exact rfl) dX3_area_73
theorem mX3_gate_0 : (Cond.fieldLink RX3 10 "SaltRow" "row" "LSaltRow$Row;") ∈ wsX3_gate := by decide +kernel
theorem iX3_gate_X3 : ∀ w ∈ wsX30, w ∈ wsX3_gate := by decide +kernel
theorem mX3_gate_2 : (Cond.fieldLink RX3 46 "SaltRow$Row" "ponds" "[LSaltRow$Pond;") ∈ wsX3_gate := by decide +kernel
theorem iX3_gate_X2 : ∀ w ∈ wsX20, w ∈ wsX3_gate := by decide +kernel
theorem mX3_gate_4 : (Cond.fieldLink RX3 55 "SaltRow$Pond" "isOpen" "Z") ∈ wsX3_gate := by decide +kernel
theorem iX3_gate_X1 : ∀ w ∈ wsX10, w ∈ wsX3_gate := by decide +kernel
set_option maxHeartbeats 4000000 in
set_option maxRecDepth 100000 in
theorem zX3_gate (l : Launch) (D : va_G) (a : Nat → Nat) (cs : Nat → ClassId) (σ : sS) (k : Nat) (hk : k < 8) (x : Int32) (hzx : x = 0 ∨ x = 1) (hzo : σ (5 + 8 * 0 + k) 9 = 0 ∨ σ (5 + 8 * 0 + k) 9 = 1) : sMi l yX3_gate wsX3_gate ({ frames := 1, cells := 0, slots := 0, locals := 21 }) D a cs [.ref (a 0), .int (nI k), .int x] σ (σ (5 + 8 * 0 + k) 9) (va_up σ (5 + 8 * 0 + k) (upd (σ (5 + 8 * 0 + k)) 9 x)) := by
  intro sz
  refine Met.ofW (cc := cX3_gate) (maxL := 4) (ret := (some .boolean)) (by decide) rfl ?_
  intro p e s m args below meth c s₁ B hml hv
  obtain ⟨rfl, hsz, hv2⟩ := hv
  have hv3 : sB D a cs σ sz s := ⟨hsz, hv2⟩
  subst hsz
  have hw := sH_start hv3
  obtain ⟨-, -, hK, -, hN⟩ := hv3
  have hx := B.exec
  have hb := B.bytes
  have hr := B.returns
  have hts := atoms_spec (ws := wsX3_gate) B.pre
  have hown : s.vm.findClass RX3 = some m.cls := findClass_of_methodNamed B.named
  have hlocks := B.notSynchronized
  have hA : ∀ q : Nat, s.heap.size ≤ q → sA a s.heap.size q := sA_new
  have hl := lv_entry ([.ref (a 0), .int (nI k), .int x]) (n := 4) (Nat.le_of_ble_eq_true rfl)
  rw [lg_entry_eq]
  generalize (lg_sl ([.ref (a 0), .int (nI k), .int x]) ++ List.replicate (4 - (lg_sl ([.ref (a 0), .int (nI k), .int x])).length) Slot.unset).toArray = ls at hl ⊢
  have hl : lv_has ls 4 [(0, .ref (a 0)), (1, .int (nI k)), (2, .int x)] := hl
  refine lv_aload_n hx hb dX3_gate_0 rfl (lv_at hl 0 rfl) ?_
  refine lv_iload_n hx hb dX3_gate_1 rfl (lv_at hl 1 rfl) ?_
  refine sc_v (sr_V (i := 0) (As := [.int (nI k)]) (rest := []) ⟨hx, hb, hml, hown, hts⟩ (zX3_needPond l D a cs _ k (by omega) _) (cwV 1 hts gX3_gate_X3_needPond rfl rfl rfl (by decide +kernel) ⟨Nat.le_of_ble_eq_true rfl, Nat.le_of_ble_eq_true rfl⟩) hK hN hw (by omega) sE_o kcX3 rfl hl.1 (Nat.le_of_ble_eq_true rfl) dX3_gate_2 ⟨Nat.le_of_ble_eq_true rfl, Nat.le_of_ble_eq_true rfl⟩) hw hA (fun H locs hw => ?_)
  refine lv_aload_n hx hb dX3_gate_5 rfl (lv_at hl 0 rfl) ?_
  refine sg_oq hx hb hts iX3_gate_X3 hown hK hw 0 (Or.inl ⟨rfl, rfl⟩) (hts _ mX3_gate_0) dX3_gate_6 ?_
  refine sg_rq (r := 0) hx hb hts iX3_gate_X2 hown hK hw (by omega) (hts _ mX3_gate_2) dX3_gate_9 ?_
  refine lv_iload_n hx hb dX3_gate_12 rfl (lv_at hl 1 rfl) ?_
  refine sg_q (r := 0) (k := k) hx hb hK hw (by omega) (by omega) rfl dX3_gate_13 ?_
  refine sg_p hx hb hts iX3_gate_X1 hown hK hw (by omega) 9 (by decide) (hts _ mX3_gate_4) dX3_gate_14 ?_
  refine lv_istore_n (lv' := [(3, .int (σ (5 + 8 * 0 + k) 9)), (0, .ref (a 0)), (1, .int (nI k)), (2, .int x)]) hx hb dX3_gate_17 rfl hl (by decide) rfl (fun ls hl => ?_)
  refine lv_aload_n hx hb dX3_gate_18 rfl (lv_at hl 1 rfl) ?_
  refine sg_oq hx hb hts iX3_gate_X3 hown hK hw 0 (Or.inl ⟨rfl, rfl⟩) (hts _ mX3_gate_0) dX3_gate_19 ?_
  refine sg_rq (r := 0) hx hb hts iX3_gate_X2 hown hK hw (by omega) (hts _ mX3_gate_2) dX3_gate_22 ?_
  refine lv_iload_n hx hb dX3_gate_25 rfl (lv_at hl 2 rfl) ?_
  refine sg_q (r := 0) (k := k) hx hb hK hw (by omega) (by omega) rfl dX3_gate_26 ?_
  refine lv_iload_n hx hb dX3_gate_27 rfl (lv_at hl 3 rfl) ?_
  refine sp_z hx hb hts iX3_gate_X1 hown hK hw (by omega) 9 hzx (by decide) (hts _ mX3_gate_4) dX3_gate_28 (fun H locs hw => ?_)
  obtain ⟨τ1, eτ1⟩ : ∃ zz : sS, va_up σ (5 + 8 * 0 + k) (upd (σ (5 + 8 * 0 + k)) 9 x) = zz := ⟨_, rfl⟩
  rw [eτ1] at hw
  refine lv_iload_n hx hb dX3_gate_31 rfl (lv_at hl 0 rfl) ?_
  exact se_z hx hb hr hlocks hw hzo (by subst eτ1; exact rfl) (by subst eτ1; exact rfl) dX3_gate_32
theorem mX3_skim_0 : (Cond.fieldLink RX3 10 "SaltRow" "row" "LSaltRow$Row;") ∈ wsX3_skim := by decide +kernel
theorem iX3_skim_X3 : ∀ w ∈ wsX30, w ∈ wsX3_skim := by decide +kernel
theorem mX3_skim_2 : (Cond.fieldLink RX3 46 "SaltRow$Row" "ponds" "[LSaltRow$Pond;") ∈ wsX3_skim := by decide +kernel
theorem iX3_skim_X2 : ∀ w ∈ wsX20, w ∈ wsX3_skim := by decide +kernel
theorem mX3_skim_4 : (Cond.fieldLink RX3 83 "SaltRow$Pond" "fresh" "I") ∈ wsX3_skim := by decide +kernel
theorem iX3_skim_X1 : ∀ w ∈ wsX10, w ∈ wsX3_skim := by decide +kernel
theorem mX3_skim_6 : (Cond.fieldLink RX3 86 "SaltRow" "skimmed" "I") ∈ wsX3_skim := by decide +kernel
set_option maxHeartbeats 4000000 in
set_option maxRecDepth 100000 in
theorem zX3_skim (l : Launch) (D : va_G) (a : Nat → Nat) (cs : Nat → ClassId) (σ : sS) (k : Nat) (hk : k < 8) : sMi l yX3_skim wsX3_skim ({ frames := 1, cells := 0, slots := 0, locals := 21 }) D a cs [.ref (a 0), .int (nI k)] σ (σ (5 + 8 * 0 + k) 5) (f_X3_skim σ k) := by
  intro sz
  refine Met.ofW (cc := cX3_skim) (maxL := 3) (ret := (some .int)) (by decide) rfl ?_
  intro p e s m args below meth c s₁ B hml hv
  obtain ⟨rfl, hsz, hv2⟩ := hv
  have hv3 : sB D a cs σ sz s := ⟨hsz, hv2⟩
  subst hsz
  have hw := sH_start hv3
  obtain ⟨-, -, hK, -, hN⟩ := hv3
  have hx := B.exec
  have hb := B.bytes
  have hr := B.returns
  have hts := atoms_spec (ws := wsX3_skim) B.pre
  have hown : s.vm.findClass RX3 = some m.cls := findClass_of_methodNamed B.named
  have hlocks := B.notSynchronized
  have hA : ∀ q : Nat, s.heap.size ≤ q → sA a s.heap.size q := sA_new
  have hl := lv_entry ([.ref (a 0), .int (nI k)]) (n := 3) (Nat.le_of_ble_eq_true rfl)
  rw [lg_entry_eq]
  generalize (lg_sl ([.ref (a 0), .int (nI k)]) ++ List.replicate (3 - (lg_sl ([.ref (a 0), .int (nI k)])).length) Slot.unset).toArray = ls at hl ⊢
  have hl : lv_has ls 3 [(0, .ref (a 0)), (1, .int (nI k))] := hl
  refine lv_aload_n hx hb dX3_skim_0 rfl (lv_at hl 0 rfl) ?_
  refine lv_iload_n hx hb dX3_skim_1 rfl (lv_at hl 1 rfl) ?_
  refine sc_v (sr_V (i := 0) (As := [.int (nI k)]) (rest := []) ⟨hx, hb, hml, hown, hts⟩ (zX3_needPond l D a cs _ k (by omega) _) (cwV 1 hts gX3_skim_X3_needPond rfl rfl rfl (by decide +kernel) ⟨Nat.le_of_ble_eq_true rfl, Nat.le_of_ble_eq_true rfl⟩) hK hN hw (by omega) sE_o kcX3 rfl hl.1 (Nat.le_of_ble_eq_true rfl) dX3_skim_2 ⟨Nat.le_of_ble_eq_true rfl, Nat.le_of_ble_eq_true rfl⟩) hw hA (fun H locs hw => ?_)
  refine lv_aload_n hx hb dX3_skim_5 rfl (lv_at hl 0 rfl) ?_
  refine sg_oq hx hb hts iX3_skim_X3 hown hK hw 0 (Or.inl ⟨rfl, rfl⟩) (hts _ mX3_skim_0) dX3_skim_6 ?_
  refine sg_rq (r := 0) hx hb hts iX3_skim_X2 hown hK hw (by omega) (hts _ mX3_skim_2) dX3_skim_9 ?_
  refine lv_iload_n hx hb dX3_skim_12 rfl (lv_at hl 1 rfl) ?_
  refine sg_q (r := 0) (k := k) hx hb hK hw (by omega) (by omega) rfl dX3_skim_13 ?_
  refine sg_p hx hb hts iX3_skim_X1 hown hK hw (by omega) 5 (by decide) (hts _ mX3_skim_4) dX3_skim_14 ?_
  refine lv_istore_n (lv' := [(2, .int (σ (5 + 8 * 0 + k) 5)), (0, .ref (a 0)), (1, .int (nI k))]) hx hb dX3_skim_17 rfl hl (by decide) rfl (fun ls hl => ?_)
  refine lv_aload_n hx hb dX3_skim_18 rfl (lv_at hl 1 rfl) ?_
  refine sg_oq hx hb hts iX3_skim_X3 hown hK hw 0 (Or.inl ⟨rfl, rfl⟩) (hts _ mX3_skim_0) dX3_skim_19 ?_
  refine sg_rq (r := 0) hx hb hts iX3_skim_X2 hown hK hw (by omega) (hts _ mX3_skim_2) dX3_skim_22 ?_
  refine lv_iload_n hx hb dX3_skim_25 rfl (lv_at hl 2 rfl) ?_
  refine sg_q (r := 0) (k := k) hx hb hK hw (by omega) (by omega) rfl dX3_skim_26 ?_
  refine lv_iconst (v := 0) hx hb dX3_skim_27 (by decide) ?_
  refine sp_p hx hb hts iX3_skim_X1 hown hK hw (by omega) 5 (by decide) (hts _ mX3_skim_4) dX3_skim_28 (fun H locs hw => ?_)
  obtain ⟨τ1, eτ1⟩ : ∃ zz : sS, va_up σ (5 + 8 * 0 + k) (upd (σ (5 + 8 * 0 + k)) 5 0) = zz := ⟨_, rfl⟩
  rw [eτ1] at hw
  refine lv_aload_n hx hb dX3_skim_31 rfl (lv_at hl 1 rfl) ?_
  refine lv_dup hx hb dX3_skim_32 rfl ?_
  refine sg_o hx hb hts iX3_skim_X3 hown hK hw 4 (by decide) (hts _ mX3_skim_6) dX3_skim_33 ?_
  refine lv_iload_n hx hb dX3_skim_36 rfl (lv_at hl 0 rfl) ?_
  refine lv_iadd hx hb dX3_skim_37 ?_
  refine lw_topi (fun x2 ex2 => ?_)
  refine sp_o hx hb hts iX3_skim_X3 hown hK hw 4 (by decide) (hts _ mX3_skim_6) dX3_skim_38 (fun H locs hw => ?_)
  obtain ⟨τ3, eτ3⟩ : ∃ zz : sS, va_up τ1 0 (upd (τ1 0) 4 x2) = zz := ⟨_, rfl⟩
  rw [eτ3] at hw
  refine lv_iload_n hx hb dX3_skim_41 rfl (lv_at hl 0 rfl) ?_
  exact se_i hx hb hr hlocks hw (by subst eτ3 ex2 eτ1; exact rfl) (by subst eτ3 ex2 eτ1; exact rfl) dX3_skim_42
theorem mX3_family_0 : (Cond.fieldLink RX3 129 "SaltRow" "familyCount" "I") ∈ wsX3_family := by decide +kernel
theorem iX3_family_X3 : ∀ w ∈ wsX30, w ∈ wsX3_family := by decide +kernel
set_option maxHeartbeats 4000000 in
set_option maxRecDepth 100000 in
theorem zX3_family (l : Launch) (D : va_G) (a : Nat → Nat) (cs : Nat → ClassId) (σ : sS) (hc : σ 0 3 < 6) : sMi l yX3_family wsX3_family ({ frames := 0, cells := 0, slots := 0, locals := 0 }) D a cs [.ref (a 0)] σ (f_X3_familyV σ) (va_up σ 0 (upd (σ 0) 3 (σ 0 3 + 1))) := by
  intro sz
  refine Met.ofW (cc := cX3_family) (maxL := 1) (ret := (some .int)) (by decide) rfl ?_
  intro p e s m args below meth c s₁ B hml hv
  obtain ⟨rfl, hsz, hv2⟩ := hv
  have hv3 : sB D a cs σ sz s := ⟨hsz, hv2⟩
  subst hsz
  have hw := sH_start hv3
  obtain ⟨-, -, hK, -, hN⟩ := hv3
  have hx := B.exec
  have hb := B.bytes
  have hr := B.returns
  have hts := atoms_spec (ws := wsX3_family) B.pre
  have hown : s.vm.findClass RX3 = some m.cls := findClass_of_methodNamed B.named
  have hlocks := B.notSynchronized
  have hA : ∀ q : Nat, s.heap.size ≤ q → sA a s.heap.size q := sA_new
  have hl := lv_entry ([.ref (a 0)]) (n := 1) (Nat.le_of_ble_eq_true rfl)
  rw [lg_entry_eq]
  generalize (lg_sl ([.ref (a 0)]) ++ List.replicate (1 - (lg_sl ([.ref (a 0)])).length) Slot.unset).toArray = ls at hl ⊢
  have hl : lv_has ls 1 [(0, .ref (a 0))] := hl
  refine lv_aload_n hx hb dX3_family_0 rfl (lv_at hl 0 rfl) ?_
  refine sg_o hx hb hts iX3_family_X3 hown hK hw 3 (by decide) (hts _ mX3_family_0) dX3_family_1 ?_
  refine lv_bipush (v := 6) hx hb dX3_family_4 (by decide) ?_
  refine lv_icmp_lt (tgt := 19) hx hb dX3_family_6 (by decide) (fun c1 => ?_) (fun c1 => absurd hc c1)
  refine lv_aload_n hx hb dX3_family_19 rfl (lv_at hl 0 rfl) ?_
  refine lv_dup hx hb dX3_family_20 rfl ?_
  refine sg_o hx hb hts iX3_family_X3 hown hK hw 3 (by decide) (hts _ mX3_family_0) dX3_family_21 ?_
  refine lv_iconst (v := 1) hx hb dX3_family_24 (by decide) ?_
  refine lv_iadd hx hb dX3_family_25 ?_
  refine sp_o hx hb hts iX3_family_X3 hown hK hw 3 (by decide) (hts _ mX3_family_0) dX3_family_26 (fun H locs hw => ?_)
  obtain ⟨τ2, eτ2⟩ : ∃ zz : sS, va_up σ 0 (upd (σ 0) 3 ((σ 0 3) + 1)) = zz := ⟨_, rfl⟩
  rw [eτ2] at hw
  refine lv_aload_n hx hb dX3_family_29 rfl (lv_at hl 0 rfl) ?_
  refine sg_o hx hb hts iX3_family_X3 hown hK hw 3 (by decide) (hts _ mX3_family_0) dX3_family_30 ?_
  refine lv_iconst (v := 1) hx hb dX3_family_33 (by decide) ?_
  refine lv_isub hx hb dX3_family_34 ?_
  exact se_i hx hb hr hlocks hw (by subst eτ2; exact rfl) (by subst eτ2; exact rfl) dX3_family_35
theorem mX3_rightsIn_0 : (Cond.fieldLink RX3 129 "SaltRow" "familyCount" "I") ∈ wsX3_rightsIn := by decide +kernel
theorem iX3_rightsIn_X3 : ∀ w ∈ wsX30, w ∈ wsX3_rightsIn := by decide +kernel
theorem mX3_rightsIn_2 : (Cond.fieldLink RX3 21 "SaltRow" "families" "[LSaltRow$Family;") ∈ wsX3_rightsIn := by decide +kernel
theorem mX3_rightsIn_3 : (Cond.fieldLink RX3 139 "SaltRow$Family" "rights" "[I") ∈ wsX3_rightsIn := by decide +kernel
theorem iX3_rightsIn_X0 : ∀ w ∈ wsX00, w ∈ wsX3_rightsIn := by decide +kernel
set_option maxHeartbeats 4000000 in
set_option maxRecDepth 100000 in
theorem zX3_rightsIn (l : Launch) (D : va_G) (a : Nat → Nat) (cs : Nat → ClassId) (σ : sS) (fc : Nat) (hfc : fc ≤ 6) (hc : σ 0 3 = nI fc) (q : Nat) (hq : q < 3) : sMi l yX3_rightsIn wsX3_rightsIn ({ frames := 0, cells := 0, slots := 0, locals := 0 }) D a cs [.ref (a 0), .int (nI (5 + q))] σ (f_X3_rightsIn σ q fc) σ := by
  intro sz
  refine Met.ofW (cc := cX3_rightsIn) (maxL := 4) (ret := (some .int)) (by decide) rfl ?_
  intro p e s m args below meth c s₁ B hml hv
  obtain ⟨rfl, hsz, hv2⟩ := hv
  have hv3 : sB D a cs σ sz s := ⟨hsz, hv2⟩
  subst hsz
  have hw := sH_start hv3
  obtain ⟨-, -, hK, -, hN⟩ := hv3
  have hx := B.exec
  have hb := B.bytes
  have hr := B.returns
  have hts := atoms_spec (ws := wsX3_rightsIn) B.pre
  have hown : s.vm.findClass RX3 = some m.cls := findClass_of_methodNamed B.named
  have hlocks := B.notSynchronized
  have hA : ∀ q : Nat, s.heap.size ≤ q → sA a s.heap.size q := sA_new
  have hl := lv_entry ([.ref (a 0), .int (nI (5 + q))]) (n := 4) (Nat.le_of_ble_eq_true rfl)
  rw [lg_entry_eq]
  generalize (lg_sl ([.ref (a 0), .int (nI (5 + q))]) ++ List.replicate (4 - (lg_sl ([.ref (a 0), .int (nI (5 + q))])).length) Slot.unset).toArray = ls at hl ⊢
  have hl : lv_has ls 4 [(0, .ref (a 0)), (1, .int (nI (5 + q)))] := hl
  refine lv_iconst (v := 0) hx hb dX3_rightsIn_0 (by decide) ?_
  refine lv_istore_n (lv' := [(2, .int 0), (0, .ref (a 0)), (1, .int (nI (5 + q)))]) hx hb dX3_rightsIn_1 rfl hl (by decide) rfl (fun ls hl => ?_)
  refine lv_iconst (v := 0) hx hb dX3_rightsIn_2 (by decide) ?_
  refine lv_istore_n (lv' := [(3, .int 0), (2, .int 0), (0, .ref (a 0)), (1, .int (nI (5 + q)))]) hx hb dX3_rightsIn_3 rfl hl (by decide) rfl (fun ls hl => ?_)
  have loop : ∀ (Q : State → Prop) (n : Nat) (k : Nat) (τ : sS) (v : Int32) (H : Heap) (locs : List Loc) (ls : Array Slot), k + n = fc ∧ τ 0 3 = nI fc → sH D a cs (sA a s.heap.size) s.heap τ H locs → lv_has ls 4 [(0, .ref (a 0)), (1, .int (nI (5 + q))), (2, .int v), (3, .int (nI k))] → (∀ (H : Heap) (locs : List Loc) (ls : Array Slot), sH D a cs (sA a s.heap.size) s.heap (τ) H locs → lv_has ls 4 [(2, .int (f_X3_rsum q τ n k v))] → W p l e { frames := 0, cells := 0, slots := 0, locals := 0 } s m #[Value.ref (a 0), Value.int (nI (5 + q))] below meth c H locs 0 0 Q (F0 m 34 ls [])) → W p l e { frames := 0, cells := 0, slots := 0, locals := 0 } s m #[Value.ref (a 0), Value.int (nI (5 + q))] below meth c H locs 0 0 Q (F0 m 4 ls []) := by
    intro Q n
    induction n with
    | zero =>
      intro k τ v H locs ls hkn hw hl kont
      refine lv_iload_n hx hb dX3_rightsIn_4 rfl (lv_at hl 3 rfl) ?_
      refine lv_aload_n hx hb dX3_rightsIn_5 rfl (lv_at hl 0 rfl) ?_
      refine sg_o hx hb hts iX3_rightsIn_X3 hown hK hw 3 (by decide) (hts _ mX3_rightsIn_0) dX3_rightsIn_6 ?_
      refine lv_icmp_ge (tgt := 34) hx hb dX3_rightsIn_9 (by decide) (fun c1 => ?_) (fun c1 => absurd (by rw [hkn.2, show k = fc by omega]; exact Int32.le_refl _) c1)
      exact kont H locs ls hw (lv_sub hl [2] rfl)
    | succ n ih =>
      intro k τ v H locs ls hkn hw hl kont
      refine lv_iload_n hx hb dX3_rightsIn_4 rfl (lv_at hl 3 rfl) ?_
      refine lv_aload_n hx hb dX3_rightsIn_5 rfl (lv_at hl 0 rfl) ?_
      refine sg_o hx hb hts iX3_rightsIn_X3 hown hK hw 3 (by decide) (hts _ mX3_rightsIn_0) dX3_rightsIn_6 ?_
      refine lv_icmp_ge (tgt := 34) hx hb dX3_rightsIn_9 (by decide) (fun c2 => absurd c2 (by rw [hkn.2]; exact nI_ge (by omega) (by omega))) (fun c2 => ?_)
      refine lv_iload_n hx hb dX3_rightsIn_12 rfl (lv_at hl 2 rfl) ?_
      refine lv_aload_n hx hb dX3_rightsIn_13 rfl (lv_at hl 0 rfl) ?_
      refine sg_oq hx hb hts iX3_rightsIn_X3 hown hK hw 2 (Or.inr (Or.inr ⟨rfl, rfl⟩)) (hts _ mX3_rightsIn_2) dX3_rightsIn_14 ?_
      refine lv_iload_n hx hb dX3_rightsIn_17 rfl (lv_at hl 3 rfl) ?_
      refine sg_g (k := k) hx hb hK hw (by omega) rfl dX3_rightsIn_18 ?_
      refine sg_fq (j := k) hx hb hts iX3_rightsIn_X0 hown hK hw (by omega) (hts _ mX3_rightsIn_3) dX3_rightsIn_19 ?_
      refine lv_iload_n hx hb dX3_rightsIn_22 rfl (lv_at hl 1 rfl) ?_
      refine lv_iconst (v := 5) hx hb dX3_rightsIn_23 (by decide) ?_
      refine lv_isub hx hb dX3_rightsIn_24 ?_
      refine sg_h (j := k) (k := q) hx hb hK hw (by omega) (by omega) (nI_sub5 q) dX3_rightsIn_25 ?_
      refine lv_iadd hx hb dX3_rightsIn_26 ?_
      refine lv_istore_n (lv' := [(2, .int (v + (τ (28 + k) q))), (0, .ref (a 0)), (1, .int (nI (5 + q))), (3, .int (nI k))]) hx hb dX3_rightsIn_27 rfl hl (by decide) rfl (fun ls hl => ?_)
      refine lv_iinc (v := nI (k + 1)) (lv' := [(3, .int (nI (k + 1))), (2, .int (v + (τ (28 + k) q))), (0, .ref (a 0)), (1, .int (nI (5 + q)))]) hx hb dX3_rightsIn_28 hl (k := 3) rfl (nI_1 k) (by decide) rfl (fun ls hl => ?_)
      refine lv_goto (tgt := 4) hx hb dX3_rightsIn_31 (by decide) ?_
      have hstep : τ = τ := by
        rfl
      have hval0 : f_X3_rsum q τ (n + 1) k v = f_X3_rsum q τ n (k + 1) (v + (τ (28 + k) q)) := by
        rfl
      exact ih (k + 1) τ (v + (τ (28 + k) q)) H locs ls ⟨by omega, hkn.2⟩ hw (lv_sub hl [2, 3, 1, 0] rfl) (fun H locs ls hw hl => kont H locs ls (by rw [hstep]; exact hw) (by rw [hval0]; exact hl))
  refine loop _ fc 0 σ 0 _ _ _ ⟨Nat.zero_add fc, hc⟩ hw (lv_sub hl [2, 3, 1, 0] rfl) (fun H locs ls hw hl => ?_)
  obtain ⟨τ3, eτ3⟩ : ∃ zz : sS, σ = zz := ⟨_, rfl⟩
  rw [eτ3] at hw
  refine lv_iload_n hx hb dX3_rightsIn_34 rfl (lv_at hl 0 rfl) ?_
  exact se_i hx hb hr hlocks hw (by subst eτ3; exact rfl) (by subst eτ3; rfl) dX3_rightsIn_35
theorem mX3_sumOfFamilies_0 : (Cond.fieldLink RX3 129 "SaltRow" "familyCount" "I") ∈ wsX3_sumOfFamilies := by decide +kernel
theorem iX3_sumOfFamilies_X3 : ∀ w ∈ wsX30, w ∈ wsX3_sumOfFamilies := by decide +kernel
theorem mX3_sumOfFamilies_2 : (Cond.fieldLink RX3 21 "SaltRow" "families" "[LSaltRow$Family;") ∈ wsX3_sumOfFamilies := by decide +kernel
set_option maxHeartbeats 4000000 in
set_option maxRecDepth 100000 in
theorem zX3_sumOfFamilies (l : Launch) (D : va_G) (a : Nat → Nat) (cs : Nat → ClassId) (σ : sS) (fc : Nat) (hfc : fc ≤ 6) (hc : σ 0 3 = nI fc) (w : Nat) (hw6 : w < 6) : sMi l yX3_sumOfFamilies wsX3_sumOfFamilies ({ frames := 3, cells := 0, slots := 0, locals := 67 }) D a cs [.ref (a 0), .int (nI w)] σ (f_X3_sumOfFamilies σ w fc) σ := by
  intro sz
  refine Met.ofW (cc := cX3_sumOfFamilies) (maxL := 4) (ret := (some .int)) (by decide) rfl ?_
  intro p e s m args below meth c s₁ B hml hv
  obtain ⟨rfl, hsz, hv2⟩ := hv
  have hv3 : sB D a cs σ sz s := ⟨hsz, hv2⟩
  subst hsz
  have hw := sH_start hv3
  obtain ⟨-, -, hK, -, hN⟩ := hv3
  have hx := B.exec
  have hb := B.bytes
  have hr := B.returns
  have hts := atoms_spec (ws := wsX3_sumOfFamilies) B.pre
  have hown : s.vm.findClass RX3 = some m.cls := findClass_of_methodNamed B.named
  have hlocks := B.notSynchronized
  have hA : ∀ q : Nat, s.heap.size ≤ q → sA a s.heap.size q := sA_new
  have hl := lv_entry ([.ref (a 0), .int (nI w)]) (n := 4) (Nat.le_of_ble_eq_true rfl)
  rw [lg_entry_eq]
  generalize (lg_sl ([.ref (a 0), .int (nI w)]) ++ List.replicate (4 - (lg_sl ([.ref (a 0), .int (nI w)])).length) Slot.unset).toArray = ls at hl ⊢
  have hl : lv_has ls 4 [(0, .ref (a 0)), (1, .int (nI w))] := hl
  refine lv_iconst (v := 0) hx hb dX3_sumOfFamilies_0 (by decide) ?_
  refine lv_istore_n (lv' := [(2, .int 0), (0, .ref (a 0)), (1, .int (nI w))]) hx hb dX3_sumOfFamilies_1 rfl hl (by decide) rfl (fun ls hl => ?_)
  refine lv_iconst (v := 0) hx hb dX3_sumOfFamilies_2 (by decide) ?_
  refine lv_istore_n (lv' := [(3, .int 0), (2, .int 0), (0, .ref (a 0)), (1, .int (nI w))]) hx hb dX3_sumOfFamilies_3 rfl hl (by decide) rfl (fun ls hl => ?_)
  have loop : ∀ (Q : State → Prop) (n : Nat) (k : Nat) (τ : sS) (v : Int32) (H : Heap) (locs : List Loc) (ls : Array Slot), k + n = fc ∧ τ 0 3 = nI fc → sH D a cs (sA a s.heap.size) s.heap τ H locs → lv_has ls 4 [(0, .ref (a 0)), (1, .int (nI w)), (2, .int v), (3, .int (nI k))] → (∀ (H : Heap) (locs : List Loc) (ls : Array Slot), sH D a cs (sA a s.heap.size) s.heap (τ) H locs → lv_has ls 4 [(2, .int (f_X3_hsum w τ n k v))] → W p l e { frames := 3, cells := 0, slots := 0, locals := 67 } s m #[Value.ref (a 0), Value.int (nI w)] below meth c H locs 0 0 Q (F0 m 31 ls [])) → W p l e { frames := 3, cells := 0, slots := 0, locals := 67 } s m #[Value.ref (a 0), Value.int (nI w)] below meth c H locs 0 0 Q (F0 m 4 ls []) := by
    intro Q n
    induction n with
    | zero =>
      intro k τ v H locs ls hkn hw hl kont
      refine lv_iload_n hx hb dX3_sumOfFamilies_4 rfl (lv_at hl 3 rfl) ?_
      refine lv_aload_n hx hb dX3_sumOfFamilies_5 rfl (lv_at hl 0 rfl) ?_
      refine sg_o hx hb hts iX3_sumOfFamilies_X3 hown hK hw 3 (by decide) (hts _ mX3_sumOfFamilies_0) dX3_sumOfFamilies_6 ?_
      refine lv_icmp_ge (tgt := 31) hx hb dX3_sumOfFamilies_9 (by decide) (fun c1 => ?_) (fun c1 => absurd (by rw [hkn.2, show k = fc by omega]; exact Int32.le_refl _) c1)
      exact kont H locs ls hw (lv_sub hl [2] rfl)
    | succ n ih =>
      intro k τ v H locs ls hkn hw hl kont
      refine lv_iload_n hx hb dX3_sumOfFamilies_4 rfl (lv_at hl 3 rfl) ?_
      refine lv_aload_n hx hb dX3_sumOfFamilies_5 rfl (lv_at hl 0 rfl) ?_
      refine sg_o hx hb hts iX3_sumOfFamilies_X3 hown hK hw 3 (by decide) (hts _ mX3_sumOfFamilies_0) dX3_sumOfFamilies_6 ?_
      refine lv_icmp_ge (tgt := 31) hx hb dX3_sumOfFamilies_9 (by decide) (fun c2 => absurd c2 (by rw [hkn.2]; exact nI_ge (by omega) (by omega))) (fun c2 => ?_)
      refine lv_iload_n hx hb dX3_sumOfFamilies_12 rfl (lv_at hl 2 rfl) ?_
      refine lv_aload_n hx hb dX3_sumOfFamilies_13 rfl (lv_at hl 0 rfl) ?_
      refine sg_oq hx hb hts iX3_sumOfFamilies_X3 hown hK hw 2 (Or.inr (Or.inr ⟨rfl, rfl⟩)) (hts _ mX3_sumOfFamilies_2) dX3_sumOfFamilies_14 ?_
      refine lv_iload_n hx hb dX3_sumOfFamilies_17 rfl (lv_at hl 3 rfl) ?_
      refine sg_g (k := k) hx hb hK hw (by omega) rfl dX3_sumOfFamilies_18 ?_
      refine lv_iload_n hx hb dX3_sumOfFamilies_19 rfl (lv_at hl 1 rfl) ?_
      refine sc_i (sr_V (i := 22 + k) (As := [.int (nI w)]) (rest := [.int v]) ⟨hx, hb, hml, hown, hts⟩ (zX0_read l D a cs _ k (by omega) w (by omega) _) (cwV 1 hts gX3_sumOfFamilies_X0_read rfl rfl rfl (by decide +kernel) ⟨Nat.le_of_ble_eq_true rfl, Nat.le_of_ble_eq_true rfl⟩) hK hN hw (by omega) (sE_f (by omega)) kcX0 rfl hl.1 (Nat.le_of_ble_eq_true rfl) dX3_sumOfFamilies_20 ⟨Nat.le_of_ble_eq_true rfl, Nat.le_of_ble_eq_true rfl⟩) hw hA (fun H locs hw => ?_)
      refine lv_iadd hx hb dX3_sumOfFamilies_23 ?_
      refine lw_topi (fun x3 ex3 => ?_)
      refine lv_istore_n (lv' := [(2, .int x3), (0, .ref (a 0)), (1, .int (nI w)), (3, .int (nI k))]) hx hb dX3_sumOfFamilies_24 rfl hl (by decide) rfl (fun ls hl => ?_)
      refine lv_iinc (v := nI (k + 1)) (lv' := [(3, .int (nI (k + 1))), (2, .int x3), (0, .ref (a 0)), (1, .int (nI w))]) hx hb dX3_sumOfFamilies_25 hl (k := 3) rfl (nI_1 k) (by decide) rfl (fun ls hl => ?_)
      refine lv_goto (tgt := 4) hx hb dX3_sumOfFamilies_28 (by decide) ?_
      have hstep : τ = τ := by
        subst ex3; rfl
      have hval0 : f_X3_hsum w τ (n + 1) k v = f_X3_hsum w τ n (k + 1) x3 := by
        subst ex3; rfl
      exact ih (k + 1) τ x3 H locs ls ⟨by omega, hkn.2⟩ hw (lv_sub hl [2, 3, 1, 0] rfl) (fun H locs ls hw hl => kont H locs ls (by rw [hstep]; exact hw) (by rw [hval0]; exact hl))
  refine loop _ fc 0 σ 0 _ _ _ ⟨Nat.zero_add fc, hc⟩ hw (lv_sub hl [2, 3, 1, 0] rfl) (fun H locs ls hw hl => ?_)
  obtain ⟨τ4, eτ4⟩ : ∃ zz : sS, σ = zz := ⟨_, rfl⟩
  rw [eτ4] at hw
  refine lv_iload_n hx hb dX3_sumOfFamilies_31 rfl (lv_at hl 0 rfl) ?_
  exact se_i hx hb hr hlocks hw (by subst eτ4; exact rfl) (by subst eτ4; rfl) dX3_sumOfFamilies_32
theorem mX3_right_0 : (Cond.fieldLink RX3 21 "SaltRow" "families" "[LSaltRow$Family;") ∈ wsX3_right := by decide +kernel
theorem iX3_right_X3 : ∀ w ∈ wsX30, w ∈ wsX3_right := by decide +kernel
theorem mX3_right_2 : (Cond.fieldLink RX3 139 "SaltRow$Family" "rights" "[I") ∈ wsX3_right := by decide +kernel
theorem iX3_right_X0 : ∀ w ∈ wsX00, w ∈ wsX3_right := by decide +kernel
set_option maxHeartbeats 4000000 in
set_option maxRecDepth 100000 in
theorem zX3_right (l : Launch) (D : va_G) (a : Nat → Nat) (cs : Nat → ClassId) (σ : sS) (fc : Nat) (hfc : fc ≤ 6) (hc : σ 0 3 = nI fc) (j : Nat) (hj : j < fc) (q : Nat) (hq : q < 3) (x : Int32) (hx0 : ¬ x < 0) (hx12 : x ≤ 12) (hs : f_X3_rightsIn σ q fc - σ (28 + j) q + x ≤ 12) : sMi l yX3_right wsX3_right ({ frames := 1, cells := 0, slots := 0, locals := 23 }) D a cs [.ref (a 0), .int (nI j), .int (nI (5 + q)), .int x] σ (σ (28 + j) q) (va_up σ (28 + j) (upd (σ (28 + j)) q x)) := by
  intro sz
  refine Met.ofW (cc := cX3_right) (maxL := 5) (ret := (some .int)) (by decide) rfl ?_
  intro p e s m args below meth c s₁ B hml hv
  obtain ⟨rfl, hsz, hv2⟩ := hv
  have hv3 : sB D a cs σ sz s := ⟨hsz, hv2⟩
  subst hsz
  have hw := sH_start hv3
  obtain ⟨-, -, hK, -, hN⟩ := hv3
  have hx := B.exec
  have hb := B.bytes
  have hr := B.returns
  have hts := atoms_spec (ws := wsX3_right) B.pre
  have hown : s.vm.findClass RX3 = some m.cls := findClass_of_methodNamed B.named
  have hlocks := B.notSynchronized
  have hA : ∀ q : Nat, s.heap.size ≤ q → sA a s.heap.size q := sA_new
  have hl := lv_entry ([.ref (a 0), .int (nI j), .int (nI (5 + q)), .int x]) (n := 5) (Nat.le_of_ble_eq_true rfl)
  rw [lg_entry_eq]
  generalize (lg_sl ([.ref (a 0), .int (nI j), .int (nI (5 + q)), .int x]) ++ List.replicate (5 - (lg_sl ([.ref (a 0), .int (nI j), .int (nI (5 + q)), .int x])).length) Slot.unset).toArray = ls at hl ⊢
  have hl : lv_has ls 5 [(0, .ref (a 0)), (1, .int (nI j)), (2, .int (nI (5 + q))), (3, .int x)] := hl
  refine lv_aload_n hx hb dX3_right_0 rfl (lv_at hl 0 rfl) ?_
  refine lv_iload_n hx hb dX3_right_1 rfl (lv_at hl 1 rfl) ?_
  refine sc_v (sr_V (i := 0) (As := [.int (nI j)]) (rest := []) ⟨hx, hb, hml, hown, hts⟩ (zX3_needFamily l D a cs _ j (by omega) (by rw [hc]; exact nI_lt (by omega) (by omega)) _) (cwV 1 hts gX3_right_X3_needFamily rfl rfl rfl (by decide +kernel) ⟨Nat.le_of_ble_eq_true rfl, Nat.le_of_ble_eq_true rfl⟩) hK hN hw (by omega) sE_o kcX3 rfl hl.1 (Nat.le_of_ble_eq_true rfl) dX3_right_2 ⟨Nat.le_of_ble_eq_true rfl, Nat.le_of_ble_eq_true rfl⟩) hw hA (fun H locs hw => ?_)
  refine lv_aload_n hx hb dX3_right_5 rfl (lv_at hl 0 rfl) ?_
  refine lv_iload_n hx hb dX3_right_6 rfl (lv_at hl 2 rfl) ?_
  refine sc_v (sr_V (i := 0) (As := [.int (nI (5 + q))]) (rest := []) ⟨hx, hb, hml, hown, hts⟩ (zX3_needPan l D a cs _ q (by omega) _) (cwV 1 hts gX3_right_X3_needPan rfl rfl rfl (by decide +kernel) ⟨Nat.le_of_ble_eq_true rfl, Nat.le_of_ble_eq_true rfl⟩) hK hN hw (by omega) sE_o kcX3 rfl hl.1 (Nat.le_of_ble_eq_true rfl) dX3_right_7 ⟨Nat.le_of_ble_eq_true rfl, Nat.le_of_ble_eq_true rfl⟩) hw hA (fun H locs hw => ?_)
  refine lv_iload_n hx hb dX3_right_10 rfl (lv_at hl 3 rfl) ?_
  refine lv_if_lt (tgt := 20) hx hb dX3_right_11 (by decide) (fun c1 => absurd c1 hx0) (fun c1 => ?_)
  refine lv_iload_n hx hb dX3_right_14 rfl (lv_at hl 3 rfl) ?_
  refine lv_bipush (v := 12) hx hb dX3_right_15 (by decide) ?_
  refine lv_icmp_le (tgt := 30) hx hb dX3_right_17 (by decide) (fun c2 => ?_) (fun c2 => absurd hx12 c2)
  refine lv_aload_n hx hb dX3_right_30 rfl (lv_at hl 0 rfl) ?_
  refine sg_oq hx hb hts iX3_right_X3 hown hK hw 2 (Or.inr (Or.inr ⟨rfl, rfl⟩)) (hts _ mX3_right_0) dX3_right_31 ?_
  refine lv_iload_n hx hb dX3_right_34 rfl (lv_at hl 1 rfl) ?_
  refine sg_g (k := j) hx hb hK hw (by omega) rfl dX3_right_35 ?_
  refine sg_fq (j := j) hx hb hts iX3_right_X0 hown hK hw (by omega) (hts _ mX3_right_2) dX3_right_36 ?_
  refine lv_iload_n hx hb dX3_right_39 rfl (lv_at hl 2 rfl) ?_
  refine lv_iconst (v := 5) hx hb dX3_right_40 (by decide) ?_
  refine lv_isub hx hb dX3_right_41 ?_
  refine sg_h (j := j) (k := q) hx hb hK hw (by omega) (by omega) (nI_sub5 q) dX3_right_42 ?_
  refine lv_istore (lv' := [(4, .int (σ (28 + j) q)), (0, .ref (a 0)), (1, .int (nI j)), (2, .int (nI (5 + q))), (3, .int x)]) hx hb dX3_right_43 hl (by decide) rfl (fun ls hl => ?_)
  refine lv_aload_n hx hb dX3_right_45 rfl (lv_at hl 1 rfl) ?_
  refine lv_iload_n hx hb dX3_right_46 rfl (lv_at hl 3 rfl) ?_
  refine sc_i (sr_V (i := 0) (As := [.int (nI (5 + q))]) (rest := []) ⟨hx, hb, hml, hown, hts⟩ (zX3_rightsIn l D a cs _ fc hfc hc q hq _) (cwV 1 hts gX3_right_X3_rightsIn rfl rfl rfl (by decide +kernel) ⟨Nat.le_of_ble_eq_true rfl, Nat.le_of_ble_eq_true rfl⟩) hK hN hw (by omega) sE_o kcX3 rfl hl.1 (Nat.le_of_ble_eq_true rfl) dX3_right_47 ⟨Nat.le_of_ble_eq_true rfl, Nat.le_of_ble_eq_true rfl⟩) hw hA (fun H locs hw => ?_)
  refine lv_iload hx hb dX3_right_50 (lv_at hl 0 rfl) ?_
  refine lv_isub hx hb dX3_right_52 ?_
  refine lv_iload_n hx hb dX3_right_53 rfl (lv_at hl 4 rfl) ?_
  refine lv_iadd hx hb dX3_right_54 ?_
  refine lv_bipush (v := 12) hx hb dX3_right_55 (by decide) ?_
  refine lv_icmp_le (tgt := 70) hx hb dX3_right_57 (by decide) (fun c3 => ?_) (fun c3 => absurd hs c3)
  refine lv_aload_n hx hb dX3_right_70 rfl (lv_at hl 1 rfl) ?_
  refine sg_oq hx hb hts iX3_right_X3 hown hK hw 2 (Or.inr (Or.inr ⟨rfl, rfl⟩)) (hts _ mX3_right_0) dX3_right_71 ?_
  refine lv_iload_n hx hb dX3_right_74 rfl (lv_at hl 2 rfl) ?_
  refine sg_g (k := j) hx hb hK hw (by omega) rfl dX3_right_75 ?_
  refine sg_fq (j := j) hx hb hts iX3_right_X0 hown hK hw (by omega) (hts _ mX3_right_2) dX3_right_76 ?_
  refine lv_iload_n hx hb dX3_right_79 rfl (lv_at hl 3 rfl) ?_
  refine lv_iconst (v := 5) hx hb dX3_right_80 (by decide) ?_
  refine lv_isub hx hb dX3_right_81 ?_
  refine lv_iload_n hx hb dX3_right_82 rfl (lv_at hl 4 rfl) ?_
  refine sp_h (j := j) (k := q) hx hb hK hw (by omega) (by omega) (nI_sub5 q) dX3_right_83 (fun H locs hw => ?_)
  obtain ⟨τ4, eτ4⟩ : ∃ zz : sS, va_up σ (28 + j) (upd (σ (28 + j)) q x) = zz := ⟨_, rfl⟩
  rw [eτ4] at hw
  refine lv_iload hx hb dX3_right_84 (lv_at hl 0 rfl) ?_
  exact se_i hx hb hr hlocks hw (by subst eτ4; exact rfl) (by subst eτ4; exact rfl) dX3_right_86
theorem mX3_shareOut_0 : (Cond.fieldLink RX3 129 "SaltRow" "familyCount" "I") ∈ wsX3_shareOut := by decide +kernel
theorem iX3_shareOut_X3 : ∀ w ∈ wsX30, w ∈ wsX3_shareOut := by decide +kernel
theorem mX3_shareOut_2 : (Cond.fieldLink RX3 21 "SaltRow" "families" "[LSaltRow$Family;") ∈ wsX3_shareOut := by decide +kernel
theorem mX3_shareOut_3 : (Cond.fieldLink RX3 139 "SaltRow$Family" "rights" "[I") ∈ wsX3_shareOut := by decide +kernel
theorem iX3_shareOut_X0 : ∀ w ∈ wsX00, w ∈ wsX3_shareOut := by decide +kernel
theorem mX3_shareOut_5 : (Cond.constantLong RX3 267 (12)) ∈ wsX3_shareOut := by decide +kernel
theorem mX3_shareOut_6 : (Cond.fieldLink RX3 246 "SaltRow" "cloisterSalt" "I") ∈ wsX3_shareOut := by decide +kernel
theorem mX3_shareOut_7 : (Cond.fieldLink RX3 249 "SaltRow" "cloisterDirt" "I") ∈ wsX3_shareOut := by decide +kernel
set_option maxHeartbeats 4000000 in
set_option maxRecDepth 100000 in
theorem zX3_shareOut (l : Launch) (D : va_G) (a : Nat → Nat) (cs : Nat → ClassId) (σ : sS) (fc : Nat) (hfc : fc ≤ 6) (hc : σ 0 3 = nI fc) (q : Nat) (hq : q < 3) (x y : Int32) : sMv l yX3_shareOut wsX3_shareOut ({ frames := 1, cells := 0, slots := 0, locals := 25 }) D a cs [.ref (a 0), .int (nI (5 + q)), .int x, .int y] σ (f_X3_shareOut σ q fc x y) := by
  intro sz
  refine Met.ofW (cc := cX3_shareOut) (maxL := 10) (ret := none) (by decide) rfl ?_
  intro p e s m args below meth c s₁ B hml hv
  obtain ⟨rfl, hsz, hv2⟩ := hv
  have hv3 : sB D a cs σ sz s := ⟨hsz, hv2⟩
  subst hsz
  have hw := sH_start hv3
  obtain ⟨-, -, hK, -, hN⟩ := hv3
  have hx := B.exec
  have hb := B.bytes
  have hr := B.returns
  have hts := atoms_spec (ws := wsX3_shareOut) B.pre
  have hown : s.vm.findClass RX3 = some m.cls := findClass_of_methodNamed B.named
  have hlocks := B.notSynchronized
  have hA : ∀ q : Nat, s.heap.size ≤ q → sA a s.heap.size q := sA_new
  have hl := lv_entry ([.ref (a 0), .int (nI (5 + q)), .int x, .int y]) (n := 10) (Nat.le_of_ble_eq_true rfl)
  rw [lg_entry_eq]
  generalize (lg_sl ([.ref (a 0), .int (nI (5 + q)), .int x, .int y]) ++ List.replicate (10 - (lg_sl ([.ref (a 0), .int (nI (5 + q)), .int x, .int y])).length) Slot.unset).toArray = ls at hl ⊢
  have hl : lv_has ls 10 [(0, .ref (a 0)), (1, .int (nI (5 + q))), (2, .int x), (3, .int y)] := hl
  refine lv_iload_n hx hb dX3_shareOut_0 rfl (lv_at hl 2 rfl) ?_
  refine lv_istore (lv' := [(4, .int x), (0, .ref (a 0)), (1, .int (nI (5 + q))), (2, .int x), (3, .int y)]) hx hb dX3_shareOut_1 hl (by decide) rfl (fun ls hl => ?_)
  refine lv_iload_n hx hb dX3_shareOut_3 rfl (lv_at hl 4 rfl) ?_
  refine lv_istore (lv' := [(5, .int y), (4, .int x), (0, .ref (a 0)), (1, .int (nI (5 + q))), (2, .int x), (3, .int y)]) hx hb dX3_shareOut_4 hl (by decide) rfl (fun ls hl => ?_)
  refine lv_iconst (v := 0) hx hb dX3_shareOut_6 (by decide) ?_
  refine lv_istore (lv' := [(6, .int 0), (5, .int y), (4, .int x), (0, .ref (a 0)), (1, .int (nI (5 + q))), (2, .int x), (3, .int y)]) hx hb dX3_shareOut_7 hl (by decide) rfl (fun ls hl => ?_)
  have loop : ∀ (Q : State → Prop) (n : Nat) (k : Nat) (τ : sS) (v : Int32) (u : Int32) (H : Heap) (locs : List Loc) (ls : Array Slot), k + n = fc ∧ τ 0 3 = nI fc → sH D a cs (sA a s.heap.size) s.heap τ H locs → lv_has ls 10 [(0, .ref (a 0)), (1, .int (nI (5 + q))), (2, .int x), (3, .int y), (4, .int v), (5, .int u), (6, .int (nI k))] → (∀ (H : Heap) (locs : List Loc) (ls : Array Slot), sH D a cs (sA a s.heap.size) s.heap (f_X3_so q x y n k τ) H locs → lv_has ls 10 [(0, .ref (a 0)), (4, .int (f_X3_soS q x y n k τ v)), (5, .int (f_X3_soD q x y n k τ u))] → W p l e { frames := 1, cells := 0, slots := 0, locals := 25 } s m #[Value.ref (a 0), Value.int (nI (5 + q)), Value.int x, Value.int y] below meth c H locs 0 0 Q (F0 m 94 ls [])) → W p l e { frames := 1, cells := 0, slots := 0, locals := 25 } s m #[Value.ref (a 0), Value.int (nI (5 + q)), Value.int x, Value.int y] below meth c H locs 0 0 Q (F0 m 9 ls []) := by
    intro Q n
    induction n with
    | zero =>
      intro k τ v u H locs ls hkn hw hl kont
      refine lv_iload hx hb dX3_shareOut_9 (lv_at hl 6 rfl) ?_
      refine lv_aload_n hx hb dX3_shareOut_11 rfl (lv_at hl 0 rfl) ?_
      refine sg_o hx hb hts iX3_shareOut_X3 hown hK hw 3 (by decide) (hts _ mX3_shareOut_0) dX3_shareOut_12 ?_
      refine lv_icmp_ge (tgt := 94) hx hb dX3_shareOut_15 (by decide) (fun c1 => ?_) (fun c1 => absurd (by rw [hkn.2, show k = fc by omega]; exact Int32.le_refl _) c1)
      exact kont H locs ls hw (lv_sub hl [0, 4, 5] rfl)
    | succ n ih =>
      intro k τ v u H locs ls hkn hw hl kont
      refine lv_iload hx hb dX3_shareOut_9 (lv_at hl 6 rfl) ?_
      refine lv_aload_n hx hb dX3_shareOut_11 rfl (lv_at hl 0 rfl) ?_
      refine sg_o hx hb hts iX3_shareOut_X3 hown hK hw 3 (by decide) (hts _ mX3_shareOut_0) dX3_shareOut_12 ?_
      refine lv_icmp_ge (tgt := 94) hx hb dX3_shareOut_15 (by decide) (fun c2 => absurd c2 (by rw [hkn.2]; exact nI_ge (by omega) (by omega))) (fun c2 => ?_)
      refine lv_aload_n hx hb dX3_shareOut_18 rfl (lv_at hl 0 rfl) ?_
      refine sg_oq hx hb hts iX3_shareOut_X3 hown hK hw 2 (Or.inr (Or.inr ⟨rfl, rfl⟩)) (hts _ mX3_shareOut_2) dX3_shareOut_19 ?_
      refine lv_iload hx hb dX3_shareOut_22 (lv_at hl 6 rfl) ?_
      refine sg_g (k := k) hx hb hK hw (by omega) rfl dX3_shareOut_24 ?_
      refine sg_fq (j := k) hx hb hts iX3_shareOut_X0 hown hK hw (by omega) (hts _ mX3_shareOut_3) dX3_shareOut_25 ?_
      refine lv_iload_n hx hb dX3_shareOut_28 rfl (lv_at hl 1 rfl) ?_
      refine lv_iconst (v := 5) hx hb dX3_shareOut_29 (by decide) ?_
      refine lv_isub hx hb dX3_shareOut_30 ?_
      refine sg_h (j := k) (k := q) hx hb hK hw (by omega) (by omega) (nI_sub5 q) dX3_shareOut_31 ?_
      refine lv_istore (lv' := [(7, .int (τ (28 + k) q)), (0, .ref (a 0)), (1, .int (nI (5 + q))), (2, .int x), (3, .int y), (4, .int v), (5, .int u), (6, .int (nI k))]) hx hb dX3_shareOut_32 hl (by decide) rfl (fun ls hl => ?_)
      refine lv_iload_n hx hb dX3_shareOut_34 rfl (lv_at hl 3 rfl) ?_
      refine lv_i2l hx hb dX3_shareOut_35 rfl ?_
      refine lv_iload hx hb dX3_shareOut_36 (lv_at hl 0 rfl) ?_
      refine lv_i2l hx hb dX3_shareOut_38 rfl ?_
      refine lv_ldc2 (v := 12) hx hb hown (hts _ mX3_shareOut_5) dX3_shareOut_39 ?_
      refine sc_i (sr_S (As := [.long x.toInt64, .long ((τ (28 + k) q).toInt64), .long 12]) (rest := []) ⟨hx, hb, hml, hown, hts⟩ (zX3_portion l D a cs _ x.toInt64 ((τ (28 + k) q).toInt64) 12 _) (va_cwS 3 hts gX3_shareOut_X3_portion rfl rfl rfl (by decide +kernel) ⟨Nat.le_of_ble_eq_true rfl, Nat.le_of_ble_eq_true rfl⟩) hK hN hw rfl hl.1 (Nat.le_of_ble_eq_true rfl) dX3_shareOut_42 ⟨Nat.le_of_ble_eq_true rfl, Nat.le_of_ble_eq_true rfl⟩) hw hA (fun H locs hw => ?_)
      refine lw_topi (fun x3 ex3 => ?_)
      refine lv_istore (lv' := [(8, .int x3), (7, .int (τ (28 + k) q)), (0, .ref (a 0)), (1, .int (nI (5 + q))), (2, .int x), (3, .int y), (4, .int v), (5, .int u), (6, .int (nI k))]) hx hb dX3_shareOut_45 hl (by decide) rfl (fun ls hl => ?_)
      refine lv_iload_n hx hb dX3_shareOut_47 rfl (lv_at hl 5 rfl) ?_
      refine lv_i2l hx hb dX3_shareOut_48 rfl ?_
      refine lv_iload hx hb dX3_shareOut_49 (lv_at hl 1 rfl) ?_
      refine lv_i2l hx hb dX3_shareOut_51 rfl ?_
      refine lv_ldc2 (v := 12) hx hb hown (hts _ mX3_shareOut_5) dX3_shareOut_52 ?_
      refine sc_i (sr_S (As := [.long y.toInt64, .long ((τ (28 + k) q).toInt64), .long 12]) (rest := []) ⟨hx, hb, hml, hown, hts⟩ (zX3_portion l D a cs _ y.toInt64 ((τ (28 + k) q).toInt64) 12 _) (va_cwS 3 hts gX3_shareOut_X3_portion rfl rfl rfl (by decide +kernel) ⟨Nat.le_of_ble_eq_true rfl, Nat.le_of_ble_eq_true rfl⟩) hK hN hw rfl hl.1 (Nat.le_of_ble_eq_true rfl) dX3_shareOut_55 ⟨Nat.le_of_ble_eq_true rfl, Nat.le_of_ble_eq_true rfl⟩) hw hA (fun H locs hw => ?_)
      refine lw_topi (fun x4 ex4 => ?_)
      refine lv_istore (lv' := [(9, .int x4), (8, .int x3), (7, .int (τ (28 + k) q)), (0, .ref (a 0)), (1, .int (nI (5 + q))), (2, .int x), (3, .int y), (4, .int v), (5, .int u), (6, .int (nI k))]) hx hb dX3_shareOut_58 hl (by decide) rfl (fun ls hl => ?_)
      refine lv_aload_n hx hb dX3_shareOut_60 rfl (lv_at hl 3 rfl) ?_
      refine sg_oq hx hb hts iX3_shareOut_X3 hown hK hw 2 (Or.inr (Or.inr ⟨rfl, rfl⟩)) (hts _ mX3_shareOut_2) dX3_shareOut_61 ?_
      refine lv_iload hx hb dX3_shareOut_64 (lv_at hl 9 rfl) ?_
      refine sg_g (k := k) hx hb hK hw (by omega) rfl dX3_shareOut_66 ?_
      refine lv_iload hx hb dX3_shareOut_67 (lv_at hl 1 rfl) ?_
      refine lv_iload hx hb dX3_shareOut_69 (lv_at hl 0 rfl) ?_
      refine sc_v (sr_V (i := 22 + k) (As := [.int x3, .int x4]) (rest := []) ⟨hx, hb, hml, hown, hts⟩ (zX0_getSalt l D a cs _ k (by omega) x3 x4 _) (cwV 2 hts gX3_shareOut_X0_getSalt rfl rfl rfl (by decide +kernel) ⟨Nat.le_of_ble_eq_true rfl, Nat.le_of_ble_eq_true rfl⟩) hK hN hw (by omega) (sE_f (by omega)) kcX0 rfl hl.1 (Nat.le_of_ble_eq_true rfl) dX3_shareOut_71 ⟨Nat.le_of_ble_eq_true rfl, Nat.le_of_ble_eq_true rfl⟩) hw hA (fun H locs hw => ?_)
      obtain ⟨τ5, eτ5⟩ : ∃ zz : sS, f_X0_getSalt τ k x3 x4 = zz := ⟨_, rfl⟩
      rw [eτ5] at hw
      refine lv_iload hx hb dX3_shareOut_74 (lv_at hl 7 rfl) ?_
      refine lv_iload hx hb dX3_shareOut_76 (lv_at hl 1 rfl) ?_
      refine lv_isub hx hb dX3_shareOut_78 ?_
      refine lv_istore (lv' := [(4, .int (v - x3)), (9, .int x4), (8, .int x3), (7, .int (τ (28 + k) q)), (0, .ref (a 0)), (1, .int (nI (5 + q))), (2, .int x), (3, .int y), (5, .int u), (6, .int (nI k))]) hx hb dX3_shareOut_79 hl (by decide) rfl (fun ls hl => ?_)
      refine lv_iload hx hb dX3_shareOut_81 (lv_at hl 8 rfl) ?_
      refine lv_iload hx hb dX3_shareOut_83 (lv_at hl 1 rfl) ?_
      refine lv_isub hx hb dX3_shareOut_85 ?_
      refine lv_istore (lv' := [(5, .int (u - x4)), (4, .int (v - x3)), (9, .int x4), (8, .int x3), (7, .int (τ (28 + k) q)), (0, .ref (a 0)), (1, .int (nI (5 + q))), (2, .int x), (3, .int y), (6, .int (nI k))]) hx hb dX3_shareOut_86 hl (by decide) rfl (fun ls hl => ?_)
      refine lv_iinc (v := nI (k + 1)) (lv' := [(6, .int (nI (k + 1))), (5, .int (u - x4)), (4, .int (v - x3)), (9, .int x4), (8, .int x3), (7, .int (τ (28 + k) q)), (0, .ref (a 0)), (1, .int (nI (5 + q))), (2, .int x), (3, .int y)]) hx hb dX3_shareOut_88 hl (k := 9) rfl (nI_1 k) (by decide) rfl (fun ls hl => ?_)
      refine lv_goto (tgt := 9) hx hb dX3_shareOut_91 (by decide) ?_
      have hstep : f_X3_so q x y (n + 1) k τ = f_X3_so q x y n (k + 1) τ5 := by
        subst eτ5 ex4 ex3; rfl
      have hval0 : f_X3_soS q x y (n + 1) k τ v = f_X3_soS q x y n (k + 1) τ5 (v - x3) := by
        subst eτ5 ex4 ex3; rfl
      have hval1 : f_X3_soD q x y (n + 1) k τ u = f_X3_soD q x y n (k + 1) τ5 (u - x4) := by
        subst eτ5 ex4 ex3; rfl
      exact ih (k + 1) τ5 (v - x3) (u - x4) H locs ls ⟨by omega, by subst eτ5 ex4 ex3; exact (f_X0_getSalt_at (by omega)).trans hkn.2⟩ hw (lv_sub hl [6, 7, 8, 9, 2, 1, 0] rfl) (fun H locs ls hw hl => kont H locs ls (by rw [hstep]; exact hw) (by rw [hval0, hval1]; exact hl))
  refine loop _ fc 0 σ x y _ _ _ ⟨Nat.zero_add fc, hc⟩ hw (lv_sub hl [3, 4, 5, 6, 2, 1, 0] rfl) (fun H locs ls hw hl => ?_)
  obtain ⟨τ6, eτ6⟩ : ∃ zz : sS, f_X3_so q x y fc 0 σ = zz := ⟨_, rfl⟩
  rw [eτ6] at hw
  refine lv_aload_n hx hb dX3_shareOut_94 rfl (lv_at hl 0 rfl) ?_
  refine lv_dup hx hb dX3_shareOut_95 rfl ?_
  refine sg_o hx hb hts iX3_shareOut_X3 hown hK hw 7 (by decide) (hts _ mX3_shareOut_6) dX3_shareOut_96 ?_
  refine lv_iload hx hb dX3_shareOut_99 (lv_at hl 1 rfl) ?_
  refine lv_iadd hx hb dX3_shareOut_101 ?_
  refine lw_topi (fun x7 ex7 => ?_)
  refine sp_o hx hb hts iX3_shareOut_X3 hown hK hw 7 (by decide) (hts _ mX3_shareOut_6) dX3_shareOut_102 (fun H locs hw => ?_)
  obtain ⟨τ8, eτ8⟩ : ∃ zz : sS, va_up τ6 0 (upd (τ6 0) 7 x7) = zz := ⟨_, rfl⟩
  rw [eτ8] at hw
  refine lv_aload_n hx hb dX3_shareOut_105 rfl (lv_at hl 0 rfl) ?_
  refine lv_dup hx hb dX3_shareOut_106 rfl ?_
  refine sg_o hx hb hts iX3_shareOut_X3 hown hK hw 8 (by decide) (hts _ mX3_shareOut_7) dX3_shareOut_107 ?_
  refine lv_iload hx hb dX3_shareOut_110 (lv_at hl 2 rfl) ?_
  refine lv_iadd hx hb dX3_shareOut_112 ?_
  refine lw_topi (fun x9 ex9 => ?_)
  refine sp_o hx hb hts iX3_shareOut_X3 hown hK hw 8 (by decide) (hts _ mX3_shareOut_7) dX3_shareOut_113 (fun H locs hw => ?_)
  obtain ⟨τ10, eτ10⟩ : ∃ zz : sS, va_up τ8 0 (upd (τ8 0) 8 x9) = zz := ⟨_, rfl⟩
  rw [eτ10] at hw
  exact se_v hx hb hr hlocks hw (by subst eτ10 ex9 eτ8 ex7 eτ6; exact rfl) dX3_shareOut_116
theorem mX3_harvest_0 : (Cond.fieldLink RX3 10 "SaltRow" "row" "LSaltRow$Row;") ∈ wsX3_harvest := by decide +kernel
theorem iX3_harvest_X3 : ∀ w ∈ wsX30, w ∈ wsX3_harvest := by decide +kernel
theorem mX3_harvest_2 : (Cond.fieldLink RX3 46 "SaltRow$Row" "ponds" "[LSaltRow$Pond;") ∈ wsX3_harvest := by decide +kernel
theorem iX3_harvest_X2 : ∀ w ∈ wsX20, w ∈ wsX3_harvest := by decide +kernel
theorem mX3_harvest_4 : (Cond.fieldLink RX3 164 "SaltRow$Pond" "crustSalt" "I") ∈ wsX3_harvest := by decide +kernel
theorem iX3_harvest_X1 : ∀ w ∈ wsX10, w ∈ wsX3_harvest := by decide +kernel
theorem mX3_harvest_6 : (Cond.fieldLink RX3 167 "SaltRow$Pond" "crustDirt" "I") ∈ wsX3_harvest := by decide +kernel
theorem mX3_harvest_7 : (Cond.fieldLink RX3 170 "SaltRow$Pond" "wasHarvested" "Z") ∈ wsX3_harvest := by decide +kernel
theorem mX3_harvest_8 : (Cond.fieldLink RX3 173 "SaltRow" "crownSalt" "I") ∈ wsX3_harvest := by decide +kernel
set_option maxHeartbeats 4000000 in
set_option maxRecDepth 100000 in
theorem zX3_harvest (l : Launch) (D : va_G) (a : Nat → Nat) (cs : Nat → ClassId) (σ : sS) (fc : Nat) (hfc : fc ≤ 6) (hc : σ 0 3 = nI fc) (q : Nat) (hq : q < 3) (x : Int32) (hh : ¬ f_X1_canBeHarvested (σ (5 + 8 * 0 + (5 + q))) = 0) : sMi l yX3_harvest wsX3_harvest ({ frames := 2, cells := 0, slots := 0, locals := 54 }) D a cs [.ref (a 0), .int (nI (5 + q)), .int x] σ (f_X1_saltOfHarvest (σ (5 + 8 * 0 + (5 + q))) x) (f_X3_harvest σ q fc x) := by
  intro sz
  refine Met.ofW (cc := cX3_harvest) (maxL := 7) (ret := (some .int)) (by decide) rfl ?_
  intro p e s m args below meth c s₁ B hml hv
  obtain ⟨rfl, hsz, hv2⟩ := hv
  have hv3 : sB D a cs σ sz s := ⟨hsz, hv2⟩
  subst hsz
  have hw := sH_start hv3
  obtain ⟨-, -, hK, -, hN⟩ := hv3
  have hx := B.exec
  have hb := B.bytes
  have hr := B.returns
  have hts := atoms_spec (ws := wsX3_harvest) B.pre
  have hown : s.vm.findClass RX3 = some m.cls := findClass_of_methodNamed B.named
  have hlocks := B.notSynchronized
  have hA : ∀ q : Nat, s.heap.size ≤ q → sA a s.heap.size q := sA_new
  have hl := lv_entry ([.ref (a 0), .int (nI (5 + q)), .int x]) (n := 7) (Nat.le_of_ble_eq_true rfl)
  rw [lg_entry_eq]
  generalize (lg_sl ([.ref (a 0), .int (nI (5 + q)), .int x]) ++ List.replicate (7 - (lg_sl ([.ref (a 0), .int (nI (5 + q)), .int x])).length) Slot.unset).toArray = ls at hl ⊢
  have hl : lv_has ls 7 [(0, .ref (a 0)), (1, .int (nI (5 + q))), (2, .int x)] := hl
  refine lv_aload_n hx hb dX3_harvest_0 rfl (lv_at hl 0 rfl) ?_
  refine lv_iload_n hx hb dX3_harvest_1 rfl (lv_at hl 1 rfl) ?_
  refine sc_v (sr_V (i := 0) (As := [.int (nI (5 + q))]) (rest := []) ⟨hx, hb, hml, hown, hts⟩ (zX3_needPan l D a cs _ q (by omega) _) (cwV 1 hts gX3_harvest_X3_needPan rfl rfl rfl (by decide +kernel) ⟨Nat.le_of_ble_eq_true rfl, Nat.le_of_ble_eq_true rfl⟩) hK hN hw (by omega) sE_o kcX3 rfl hl.1 (Nat.le_of_ble_eq_true rfl) dX3_harvest_2 ⟨Nat.le_of_ble_eq_true rfl, Nat.le_of_ble_eq_true rfl⟩) hw hA (fun H locs hw => ?_)
  refine lv_aload_n hx hb dX3_harvest_5 rfl (lv_at hl 0 rfl) ?_
  refine sg_oq hx hb hts iX3_harvest_X3 hown hK hw 0 (Or.inl ⟨rfl, rfl⟩) (hts _ mX3_harvest_0) dX3_harvest_6 ?_
  refine sg_rq (r := 0) hx hb hts iX3_harvest_X2 hown hK hw (by omega) (hts _ mX3_harvest_2) dX3_harvest_9 ?_
  refine lv_iload_n hx hb dX3_harvest_12 rfl (lv_at hl 1 rfl) ?_
  refine sg_q (r := 0) (k := (5 + q)) hx hb hK hw (by omega) (by omega) rfl dX3_harvest_13 ?_
  refine lv_astore_n (lv' := [(3, .ref (a (5 + 8 * 0 + (5 + q)))), (0, .ref (a 0)), (1, .int (nI (5 + q))), (2, .int x)]) hx hb dX3_harvest_14 rfl hl (by decide) rfl (fun ls hl => ?_)
  refine lv_aload_n hx hb dX3_harvest_15 rfl (lv_at hl 0 rfl) ?_
  have hw := sH_foc (i := 5 + 8 * 0 + (5 + q)) hw
  refine sc_i (sr_V (i := 5 + 8 * 0 + (5 + q)) (As := []) (rest := []) ⟨hx, hb, hml, hown, hts⟩ (zX1_canBeHarvested l D a cs _ (5 + 8 * 0 + (5 + q)) (by omega) _ _) (cwV 0 hts gX3_harvest_X1_canBeHarvested rfl rfl rfl (by decide +kernel) ⟨Nat.le_of_ble_eq_true rfl, Nat.le_of_ble_eq_true rfl⟩) hK hN hw (by omega) (sE_p (by omega)) kcX1 rfl hl.1 (Nat.le_of_ble_eq_true rfl) dX3_harvest_16 ⟨Nat.le_of_ble_eq_true rfl, Nat.le_of_ble_eq_true rfl⟩) hw hA (fun H locs hw => ?_)
  have hw := sH_unf hw
  refine lv_if_ne (tgt := 32) hx hb dX3_harvest_19 (by decide) (fun c1 => ?_) (fun c1 => absurd c1 hh)
  refine lv_aload_n hx hb dX3_harvest_32 rfl (lv_at hl 0 rfl) ?_
  refine lv_iload_n hx hb dX3_harvest_33 rfl (lv_at hl 3 rfl) ?_
  have hw := sH_foc (i := 5 + 8 * 0 + (5 + q)) hw
  refine sc_i (sr_V (i := 5 + 8 * 0 + (5 + q)) (As := [.int x]) (rest := []) ⟨hx, hb, hml, hown, hts⟩ (zX1_saltOfHarvest l D a cs _ (5 + 8 * 0 + (5 + q)) (by omega) _ x _) (cwV 1 hts gX3_harvest_X1_saltOfHarvest rfl rfl rfl (by decide +kernel) ⟨Nat.le_of_ble_eq_true rfl, Nat.le_of_ble_eq_true rfl⟩) hK hN hw (by omega) (sE_p (by omega)) kcX1 rfl hl.1 (Nat.le_of_ble_eq_true rfl) dX3_harvest_34 ⟨Nat.le_of_ble_eq_true rfl, Nat.le_of_ble_eq_true rfl⟩) hw hA (fun H locs hw => ?_)
  have hw := sH_unf hw
  refine lw_topi (fun x2 ex2 => ?_)
  refine lv_istore (lv' := [(4, .int x2), (3, .ref (a (5 + 8 * 0 + (5 + q)))), (0, .ref (a 0)), (1, .int (nI (5 + q))), (2, .int x)]) hx hb dX3_harvest_37 hl (by decide) rfl (fun ls hl => ?_)
  refine lv_aload_n hx hb dX3_harvest_39 rfl (lv_at hl 1 rfl) ?_
  refine lv_iload hx hb dX3_harvest_40 (lv_at hl 0 rfl) ?_
  have hw := sH_foc (i := 5 + 8 * 0 + (5 + q)) hw
  refine sc_i (sr_V (i := 5 + 8 * 0 + (5 + q)) (As := [.int x2]) (rest := []) ⟨hx, hb, hml, hown, hts⟩ (zX1_dirtOfCrustWith l D a cs _ (5 + 8 * 0 + (5 + q)) (by omega) _ x2 _) (cwV 1 hts gX3_harvest_X1_dirtOfCrustWith rfl rfl rfl (by decide +kernel) ⟨Nat.le_of_ble_eq_true rfl, Nat.le_of_ble_eq_true rfl⟩) hK hN hw (by omega) (sE_p (by omega)) kcX1 rfl hl.1 (Nat.le_of_ble_eq_true rfl) dX3_harvest_42 ⟨Nat.le_of_ble_eq_true rfl, Nat.le_of_ble_eq_true rfl⟩) hw hA (fun H locs hw => ?_)
  have hw := sH_unf hw
  refine lw_topi (fun x3 ex3 => ?_)
  refine lv_istore (lv' := [(5, .int x3), (4, .int x2), (3, .ref (a (5 + 8 * 0 + (5 + q)))), (0, .ref (a 0)), (1, .int (nI (5 + q))), (2, .int x)]) hx hb dX3_harvest_45 hl (by decide) rfl (fun ls hl => ?_)
  refine lv_iload hx hb dX3_harvest_47 (lv_at hl 0 rfl) ?_
  refine lv_aload_n hx hb dX3_harvest_49 rfl (lv_at hl 2 rfl) ?_
  refine lv_iload_n hx hb dX3_harvest_50 rfl (lv_at hl 5 rfl) ?_
  have hw := sH_foc (i := 5 + 8 * 0 + (5 + q)) hw
  refine sc_i (sr_V (i := 5 + 8 * 0 + (5 + q)) (As := [.int x]) (rest := [.int x3]) ⟨hx, hb, hml, hown, hts⟩ (zX1_dirtOfFloor l D a cs _ (5 + 8 * 0 + (5 + q)) (by omega) _ x _) (cwV 1 hts gX3_harvest_X1_dirtOfFloor rfl rfl rfl (by decide +kernel) ⟨Nat.le_of_ble_eq_true rfl, Nat.le_of_ble_eq_true rfl⟩) hK hN hw (by omega) (sE_p (by omega)) kcX1 rfl hl.1 (Nat.le_of_ble_eq_true rfl) dX3_harvest_51 ⟨Nat.le_of_ble_eq_true rfl, Nat.le_of_ble_eq_true rfl⟩) hw hA (fun H locs hw => ?_)
  have hw := sH_unf hw
  refine lv_iadd hx hb dX3_harvest_54 ?_
  refine lw_topi (fun x4 ex4 => ?_)
  refine lv_istore (lv' := [(6, .int x4), (5, .int x3), (4, .int x2), (3, .ref (a (5 + 8 * 0 + (5 + q)))), (0, .ref (a 0)), (1, .int (nI (5 + q))), (2, .int x)]) hx hb dX3_harvest_55 hl (by decide) rfl (fun ls hl => ?_)
  refine lv_aload_n hx hb dX3_harvest_57 rfl (lv_at hl 3 rfl) ?_
  refine lv_dup hx hb dX3_harvest_58 rfl ?_
  refine sg_p hx hb hts iX3_harvest_X1 hown hK hw (by omega) 6 (by decide) (hts _ mX3_harvest_4) dX3_harvest_59 ?_
  refine lv_iload hx hb dX3_harvest_62 (lv_at hl 2 rfl) ?_
  refine lv_isub hx hb dX3_harvest_64 ?_
  refine lw_topi (fun x5 ex5 => ?_)
  refine sp_p hx hb hts iX3_harvest_X1 hown hK hw (by omega) 6 (by decide) (hts _ mX3_harvest_4) dX3_harvest_65 (fun H locs hw => ?_)
  obtain ⟨τ6, eτ6⟩ : ∃ zz : sS, va_up σ (5 + 8 * 0 + (5 + q)) (upd (σ (5 + 8 * 0 + (5 + q))) 6 x5) = zz := ⟨_, rfl⟩
  rw [eτ6] at hw
  refine lv_aload_n hx hb dX3_harvest_68 rfl (lv_at hl 3 rfl) ?_
  refine lv_dup hx hb dX3_harvest_69 rfl ?_
  refine sg_p hx hb hts iX3_harvest_X1 hown hK hw (by omega) 7 (by decide) (hts _ mX3_harvest_6) dX3_harvest_70 ?_
  refine lv_iload hx hb dX3_harvest_73 (lv_at hl 1 rfl) ?_
  refine lv_isub hx hb dX3_harvest_75 ?_
  refine lw_topi (fun x7 ex7 => ?_)
  refine sp_p hx hb hts iX3_harvest_X1 hown hK hw (by omega) 7 (by decide) (hts _ mX3_harvest_6) dX3_harvest_76 (fun H locs hw => ?_)
  obtain ⟨τ8, eτ8⟩ : ∃ zz : sS, va_up τ6 (5 + 8 * 0 + (5 + q)) (upd (τ6 (5 + 8 * 0 + (5 + q))) 7 x7) = zz := ⟨_, rfl⟩
  rw [eτ8] at hw
  refine lv_aload_n hx hb dX3_harvest_79 rfl (lv_at hl 3 rfl) ?_
  refine lv_iconst (v := 1) hx hb dX3_harvest_80 (by decide) ?_
  refine sp_z hx hb hts iX3_harvest_X1 hown hK hw (by omega) 11 (Or.inr rfl) (by decide) (hts _ mX3_harvest_7) dX3_harvest_81 (fun H locs hw => ?_)
  obtain ⟨τ9, eτ9⟩ : ∃ zz : sS, va_up τ8 (5 + 8 * 0 + (5 + q)) (upd (τ8 (5 + 8 * 0 + (5 + q))) 11 1) = zz := ⟨_, rfl⟩
  rw [eτ9] at hw
  refine lv_aload_n hx hb dX3_harvest_84 rfl (lv_at hl 4 rfl) ?_
  refine lv_dup hx hb dX3_harvest_85 rfl ?_
  refine sg_o hx hb hts iX3_harvest_X3 hown hK hw 6 (by decide) (hts _ mX3_harvest_8) dX3_harvest_86 ?_
  refine lv_iload hx hb dX3_harvest_89 (lv_at hl 2 rfl) ?_
  refine sc_i (sr_S (As := [.int x2]) (rest := [.int (τ9 0 6), .ref (a 0)]) ⟨hx, hb, hml, hown, hts⟩ (zX3_crownsPart l D a cs _ x2 _) (va_cwS 1 hts gX3_harvest_X3_crownsPart rfl rfl rfl (by decide +kernel) ⟨Nat.le_of_ble_eq_true rfl, Nat.le_of_ble_eq_true rfl⟩) hK hN hw rfl hl.1 (Nat.le_of_ble_eq_true rfl) dX3_harvest_91 ⟨Nat.le_of_ble_eq_true rfl, Nat.le_of_ble_eq_true rfl⟩) hw hA (fun H locs hw => ?_)
  refine lv_iadd hx hb dX3_harvest_94 ?_
  refine lw_topi (fun x10 ex10 => ?_)
  refine sp_o hx hb hts iX3_harvest_X3 hown hK hw 6 (by decide) (hts _ mX3_harvest_8) dX3_harvest_95 (fun H locs hw => ?_)
  obtain ⟨τ11, eτ11⟩ : ∃ zz : sS, va_up τ9 0 (upd (τ9 0) 6 x10) = zz := ⟨_, rfl⟩
  rw [eτ11] at hw
  refine lv_aload_n hx hb dX3_harvest_98 rfl (lv_at hl 4 rfl) ?_
  refine lv_iload_n hx hb dX3_harvest_99 rfl (lv_at hl 5 rfl) ?_
  refine lv_iload hx hb dX3_harvest_100 (lv_at hl 2 rfl) ?_
  refine lv_iload hx hb dX3_harvest_102 (lv_at hl 2 rfl) ?_
  refine sc_i (sr_S (As := [.int x2]) (rest := [.int x2, .int (nI (5 + q)), .ref (a 0)]) ⟨hx, hb, hml, hown, hts⟩ (zX3_crownsPart l D a cs _ x2 _) (va_cwS 1 hts gX3_harvest_X3_crownsPart rfl rfl rfl (by decide +kernel) ⟨Nat.le_of_ble_eq_true rfl, Nat.le_of_ble_eq_true rfl⟩) hK hN hw rfl hl.1 (Nat.le_of_ble_eq_true rfl) dX3_harvest_104 ⟨Nat.le_of_ble_eq_true rfl, Nat.le_of_ble_eq_true rfl⟩) hw hA (fun H locs hw => ?_)
  refine lv_isub hx hb dX3_harvest_107 ?_
  refine lv_iload hx hb dX3_harvest_108 (lv_at hl 0 rfl) ?_
  refine sc_v (sr_V (i := 0) (As := [.int (nI (5 + q)), .int (x2 - (f_X3_crownsPart x2)), .int x4]) (rest := []) ⟨hx, hb, hml, hown, hts⟩ (zX3_shareOut l D a cs _ fc hfc (by subst eτ11 ex10 eτ9 eτ8 ex7 eτ6 ex5 ex4 ex3 ex2; simp [va_up, upd, hc, show ¬ (0 = 5 + (5 + q)) by omega]) q hq (x2 - (f_X3_crownsPart x2)) x4 _) (cwV 3 hts gX3_harvest_X3_shareOut rfl rfl rfl (by decide +kernel) ⟨Nat.le_of_ble_eq_true rfl, Nat.le_of_ble_eq_true rfl⟩) hK hN hw (by omega) sE_o kcX3 rfl hl.1 (Nat.le_of_ble_eq_true rfl) dX3_harvest_110 ⟨Nat.le_of_ble_eq_true rfl, Nat.le_of_ble_eq_true rfl⟩) hw hA (fun H locs hw => ?_)
  obtain ⟨τ12, eτ12⟩ : ∃ zz : sS, f_X3_shareOut τ11 q fc (x2 - (f_X3_crownsPart x2)) x4 = zz := ⟨_, rfl⟩
  rw [eτ12] at hw
  refine lv_iload hx hb dX3_harvest_113 (lv_at hl 2 rfl) ?_
  exact se_i hx hb hr hlocks hw (by subst eτ12 eτ11 ex10 eτ9 eτ8 ex7 eτ6 ex5 ex4 ex3 ex2; exact rfl) (by subst eτ12 eτ11 ex10 eτ9 eτ8 ex7 eτ6 ex5 ex4 ex3 ex2; exact rfl) dX3_harvest_115
theorem mX3_wash_0 : (Cond.fieldLink RX3 21 "SaltRow" "families" "[LSaltRow$Family;") ∈ wsX3_wash := by decide +kernel
theorem iX3_wash_X3 : ∀ w ∈ wsX30, w ∈ wsX3_wash := by decide +kernel
theorem mX3_wash_2 : (Cond.fieldLink RX3 197 "SaltRow$Family" "salt" "I") ∈ wsX3_wash := by decide +kernel
theorem iX3_wash_X0 : ∀ w ∈ wsX00, w ∈ wsX3_wash := by decide +kernel
theorem mX3_wash_4 : (Cond.fieldLink RX3 200 "SaltRow$Family" "dirt" "I") ∈ wsX3_wash := by decide +kernel
theorem mX3_wash_5 : (Cond.fieldLink RX3 100 "SaltRow" "lostSalt" "I") ∈ wsX3_wash := by decide +kernel
set_option maxHeartbeats 4000000 in
set_option maxRecDepth 100000 in
theorem zX3_wash (l : Launch) (D : va_G) (a : Nat → Nat) (cs : Nat → ClassId) (σ : sS) (fc : Nat) (hfc : fc ≤ 6) (hc : σ 0 3 = nI fc) (j : Nat) (hj : j < fc) (hs : 1 ≤ σ (22 + j) 1) : sMi l yX3_wash wsX3_wash ({ frames := 2, cells := 0, slots := 0, locals := 46 }) D a cs [.ref (a 0), .int (nI j)] σ (f_X3_washV σ j) (f_X3_wash σ j) := by
  intro sz
  refine Met.ofW (cc := cX3_wash) (maxL := 4) (ret := (some .int)) (by decide) rfl ?_
  intro p e s m args below meth c s₁ B hml hv
  obtain ⟨rfl, hsz, hv2⟩ := hv
  have hv3 : sB D a cs σ sz s := ⟨hsz, hv2⟩
  subst hsz
  have hw := sH_start hv3
  obtain ⟨-, -, hK, -, hN⟩ := hv3
  have hx := B.exec
  have hb := B.bytes
  have hr := B.returns
  have hts := atoms_spec (ws := wsX3_wash) B.pre
  have hown : s.vm.findClass RX3 = some m.cls := findClass_of_methodNamed B.named
  have hlocks := B.notSynchronized
  have hA : ∀ q : Nat, s.heap.size ≤ q → sA a s.heap.size q := sA_new
  have hl := lv_entry ([.ref (a 0), .int (nI j)]) (n := 4) (Nat.le_of_ble_eq_true rfl)
  rw [lg_entry_eq]
  generalize (lg_sl ([.ref (a 0), .int (nI j)]) ++ List.replicate (4 - (lg_sl ([.ref (a 0), .int (nI j)])).length) Slot.unset).toArray = ls at hl ⊢
  have hl : lv_has ls 4 [(0, .ref (a 0)), (1, .int (nI j))] := hl
  refine lv_aload_n hx hb dX3_wash_0 rfl (lv_at hl 0 rfl) ?_
  refine lv_iload_n hx hb dX3_wash_1 rfl (lv_at hl 1 rfl) ?_
  refine sc_v (sr_V (i := 0) (As := [.int (nI j)]) (rest := []) ⟨hx, hb, hml, hown, hts⟩ (zX3_needFamily l D a cs _ j (by omega) (by rw [hc]; exact nI_lt (by omega) (by omega)) _) (cwV 1 hts gX3_wash_X3_needFamily rfl rfl rfl (by decide +kernel) ⟨Nat.le_of_ble_eq_true rfl, Nat.le_of_ble_eq_true rfl⟩) hK hN hw (by omega) sE_o kcX3 rfl hl.1 (Nat.le_of_ble_eq_true rfl) dX3_wash_2 ⟨Nat.le_of_ble_eq_true rfl, Nat.le_of_ble_eq_true rfl⟩) hw hA (fun H locs hw => ?_)
  refine lv_aload_n hx hb dX3_wash_5 rfl (lv_at hl 0 rfl) ?_
  refine sg_oq hx hb hts iX3_wash_X3 hown hK hw 2 (Or.inr (Or.inr ⟨rfl, rfl⟩)) (hts _ mX3_wash_0) dX3_wash_6 ?_
  refine lv_iload_n hx hb dX3_wash_9 rfl (lv_at hl 1 rfl) ?_
  refine sg_g (k := j) hx hb hK hw (by omega) rfl dX3_wash_10 ?_
  refine lv_astore_n (lv' := [(2, .ref (a (22 + j))), (0, .ref (a 0)), (1, .int (nI j))]) hx hb dX3_wash_11 rfl hl (by decide) rfl (fun ls hl => ?_)
  refine lv_aload_n hx hb dX3_wash_12 rfl (lv_at hl 0 rfl) ?_
  refine sg_f (j := j) hx hb hts iX3_wash_X0 hown hK hw (by omega) 1 (by decide) (hts _ mX3_wash_2) dX3_wash_13 ?_
  refine lv_iconst (v := 1) hx hb dX3_wash_16 (by decide) ?_
  refine lv_icmp_ge (tgt := 30) hx hb dX3_wash_17 (by decide) (fun c1 => ?_) (fun c1 => absurd hs c1)
  refine lv_aload_n hx hb dX3_wash_30 rfl (lv_at hl 0 rfl) ?_
  refine sg_f (j := j) hx hb hts iX3_wash_X0 hown hK hw (by omega) 1 (by decide) (hts _ mX3_wash_2) dX3_wash_31 ?_
  refine lv_bipush (v := 20) hx hb dX3_wash_34 (by decide) ?_
  refine sc_i (sr_S (As := [.int (σ (22 + j) 1), .int 20]) (rest := []) ⟨hx, hb, hml, hown, hts⟩ (zX3_roundedUp l D a cs _ (σ (22 + j) 1) 20 _) (va_cwS 2 hts gX3_wash_X3_roundedUp rfl rfl rfl (by decide +kernel) ⟨Nat.le_of_ble_eq_true rfl, Nat.le_of_ble_eq_true rfl⟩) hK hN hw rfl hl.1 (Nat.le_of_ble_eq_true rfl) dX3_wash_36 ⟨Nat.le_of_ble_eq_true rfl, Nat.le_of_ble_eq_true rfl⟩) hw hA (fun H locs hw => ?_)
  refine lw_topi (fun x2 ex2 => ?_)
  refine lv_istore_n (lv' := [(3, .int x2), (2, .ref (a (22 + j))), (0, .ref (a 0)), (1, .int (nI j))]) hx hb dX3_wash_39 rfl hl (by decide) rfl (fun ls hl => ?_)
  refine lv_aload_n hx hb dX3_wash_40 rfl (lv_at hl 1 rfl) ?_
  refine lv_dup hx hb dX3_wash_41 rfl ?_
  refine sg_f (j := j) hx hb hts iX3_wash_X0 hown hK hw (by omega) 2 (by decide) (hts _ mX3_wash_4) dX3_wash_42 ?_
  refine lv_aload_n hx hb dX3_wash_45 rfl (lv_at hl 1 rfl) ?_
  refine sg_f (j := j) hx hb hts iX3_wash_X0 hown hK hw (by omega) 2 (by decide) (hts _ mX3_wash_4) dX3_wash_46 ?_
  refine lv_iconst (v := 2) hx hb dX3_wash_49 (by decide) ?_
  refine sc_i (sr_S (As := [.int (σ (22 + j) 2), .int 2]) (rest := [.int (σ (22 + j) 2), .ref (a (22 + j))]) ⟨hx, hb, hml, hown, hts⟩ (zX3_roundedUp l D a cs _ (σ (22 + j) 2) 2 _) (va_cwS 2 hts gX3_wash_X3_roundedUp rfl rfl rfl (by decide +kernel) ⟨Nat.le_of_ble_eq_true rfl, Nat.le_of_ble_eq_true rfl⟩) hK hN hw rfl hl.1 (Nat.le_of_ble_eq_true rfl) dX3_wash_50 ⟨Nat.le_of_ble_eq_true rfl, Nat.le_of_ble_eq_true rfl⟩) hw hA (fun H locs hw => ?_)
  refine lv_isub hx hb dX3_wash_53 ?_
  refine lw_topi (fun x3 ex3 => ?_)
  refine sp_f (j := j) hx hb hts iX3_wash_X0 hown hK hw (by omega) 2 (by decide) (hts _ mX3_wash_4) dX3_wash_54 (fun H locs hw => ?_)
  obtain ⟨τ4, eτ4⟩ : ∃ zz : sS, va_up σ (22 + j) (upd (σ (22 + j)) 2 x3) = zz := ⟨_, rfl⟩
  rw [eτ4] at hw
  refine lv_aload_n hx hb dX3_wash_57 rfl (lv_at hl 1 rfl) ?_
  refine lv_dup hx hb dX3_wash_58 rfl ?_
  refine sg_f (j := j) hx hb hts iX3_wash_X0 hown hK hw (by omega) 1 (by decide) (hts _ mX3_wash_2) dX3_wash_59 ?_
  refine lv_iload_n hx hb dX3_wash_62 rfl (lv_at hl 0 rfl) ?_
  refine lv_isub hx hb dX3_wash_63 ?_
  refine sp_f (j := j) hx hb hts iX3_wash_X0 hown hK hw (by omega) 1 (by decide) (hts _ mX3_wash_2) dX3_wash_64 (fun H locs hw => ?_)
  obtain ⟨τ5, eτ5⟩ : ∃ zz : sS, va_up τ4 (22 + j) (upd (τ4 (22 + j)) 1 ((τ4 (22 + j) 1) - x2)) = zz := ⟨_, rfl⟩
  rw [eτ5] at hw
  refine lv_aload_n hx hb dX3_wash_67 rfl (lv_at hl 2 rfl) ?_
  refine lv_dup hx hb dX3_wash_68 rfl ?_
  refine sg_o hx hb hts iX3_wash_X3 hown hK hw 5 (by decide) (hts _ mX3_wash_5) dX3_wash_69 ?_
  refine lv_iload_n hx hb dX3_wash_72 rfl (lv_at hl 0 rfl) ?_
  refine lv_iadd hx hb dX3_wash_73 ?_
  refine sp_o hx hb hts iX3_wash_X3 hown hK hw 5 (by decide) (hts _ mX3_wash_5) dX3_wash_74 (fun H locs hw => ?_)
  obtain ⟨τ6, eτ6⟩ : ∃ zz : sS, va_up τ5 0 (upd (τ5 0) 5 ((τ5 0 5) + x2)) = zz := ⟨_, rfl⟩
  rw [eτ6] at hw
  refine lv_aload_n hx hb dX3_wash_77 rfl (lv_at hl 1 rfl) ?_
  refine sg_f (j := j) hx hb hts iX3_wash_X0 hown hK hw (by omega) 1 (by decide) (hts _ mX3_wash_2) dX3_wash_78 ?_
  refine lv_aload_n hx hb dX3_wash_81 rfl (lv_at hl 1 rfl) ?_
  refine sg_f (j := j) hx hb hts iX3_wash_X0 hown hK hw (by omega) 2 (by decide) (hts _ mX3_wash_4) dX3_wash_82 ?_
  refine sc_i (sr_S (As := [.int (τ6 (22 + j) 1), .int (τ6 (22 + j) 2)]) (rest := []) ⟨hx, hb, hml, hown, hts⟩ (zX3_purity l D a cs _ (τ6 (22 + j) 1) (τ6 (22 + j) 2) _) (va_cwS 2 hts gX3_wash_X3_purity rfl rfl rfl (by decide +kernel) ⟨Nat.le_of_ble_eq_true rfl, Nat.le_of_ble_eq_true rfl⟩) hK hN hw rfl hl.1 (Nat.le_of_ble_eq_true rfl) dX3_wash_85 ⟨Nat.le_of_ble_eq_true rfl, Nat.le_of_ble_eq_true rfl⟩) hw hA (fun H locs hw => ?_)
  exact se_i hx hb hr hlocks hw (by subst eτ6 eτ5 eτ4 ex3 ex2; exact rfl) (by subst eτ6 eτ5 eτ4 ex3 ex2; exact rfl) dX3_wash_88
theorem mX3_ofPond_0 : (Cond.fieldLink RX3 10 "SaltRow" "row" "LSaltRow$Row;") ∈ wsX3_ofPond := by decide +kernel
theorem iX3_ofPond_X3 : ∀ w ∈ wsX30, w ∈ wsX3_ofPond := by decide +kernel
theorem mX3_ofPond_2 : (Cond.fieldLink RX3 46 "SaltRow$Row" "ponds" "[LSaltRow$Pond;") ∈ wsX3_ofPond := by decide +kernel
theorem iX3_ofPond_X2 : ∀ w ∈ wsX20, w ∈ wsX3_ofPond := by decide +kernel
set_option maxHeartbeats 4000000 in
set_option maxRecDepth 100000 in
theorem zX3_ofPond (l : Launch) (D : va_G) (a : Nat → Nat) (cs : Nat → ClassId) (σ : sS) (k : Nat) (hk : k < 8) (w : Nat) (hw11 : w < 11) : sMi l yX3_ofPond wsX3_ofPond ({ frames := 3, cells := 0, slots := 0, locals := 66 }) D a cs [.ref (a 0), .int (nI k), .int (nI w)] σ (f_X1_read (σ (5 + 8 * 0 + k)) w) σ := by
  intro sz
  refine Met.ofW (cc := cX3_ofPond) (maxL := 3) (ret := (some .int)) (by decide) rfl ?_
  intro p e s m args below meth c s₁ B hml hv
  obtain ⟨rfl, hsz, hv2⟩ := hv
  have hv3 : sB D a cs σ sz s := ⟨hsz, hv2⟩
  subst hsz
  have hw := sH_start hv3
  obtain ⟨-, -, hK, -, hN⟩ := hv3
  have hx := B.exec
  have hb := B.bytes
  have hr := B.returns
  have hts := atoms_spec (ws := wsX3_ofPond) B.pre
  have hown : s.vm.findClass RX3 = some m.cls := findClass_of_methodNamed B.named
  have hlocks := B.notSynchronized
  have hA : ∀ q : Nat, s.heap.size ≤ q → sA a s.heap.size q := sA_new
  have hl := lv_entry ([.ref (a 0), .int (nI k), .int (nI w)]) (n := 3) (Nat.le_of_ble_eq_true rfl)
  rw [lg_entry_eq]
  generalize (lg_sl ([.ref (a 0), .int (nI k), .int (nI w)]) ++ List.replicate (3 - (lg_sl ([.ref (a 0), .int (nI k), .int (nI w)])).length) Slot.unset).toArray = ls at hl ⊢
  have hl : lv_has ls 3 [(0, .ref (a 0)), (1, .int (nI k)), (2, .int (nI w))] := hl
  refine lv_aload_n hx hb dX3_ofPond_0 rfl (lv_at hl 0 rfl) ?_
  refine lv_iload_n hx hb dX3_ofPond_1 rfl (lv_at hl 1 rfl) ?_
  refine sc_v (sr_V (i := 0) (As := [.int (nI k)]) (rest := []) ⟨hx, hb, hml, hown, hts⟩ (zX3_needPond l D a cs _ k (by omega) _) (cwV 1 hts gX3_ofPond_X3_needPond rfl rfl rfl (by decide +kernel) ⟨Nat.le_of_ble_eq_true rfl, Nat.le_of_ble_eq_true rfl⟩) hK hN hw (by omega) sE_o kcX3 rfl hl.1 (Nat.le_of_ble_eq_true rfl) dX3_ofPond_2 ⟨Nat.le_of_ble_eq_true rfl, Nat.le_of_ble_eq_true rfl⟩) hw hA (fun H locs hw => ?_)
  refine lv_iload_n hx hb dX3_ofPond_5 rfl (lv_at hl 2 rfl) ?_
  refine lv_if_lt (tgt := 15) hx hb dX3_ofPond_6 (by decide) (fun c1 => absurd c1 (nI_pos (n := w) (by omega))) (fun c1 => ?_)
  refine lv_iload_n hx hb dX3_ofPond_9 rfl (lv_at hl 2 rfl) ?_
  refine lv_bipush (v := 10) hx hb dX3_ofPond_10 (by decide) ?_
  refine lv_icmp_le (tgt := 25) hx hb dX3_ofPond_12 (by decide) (fun c2 => ?_) (fun c2 => absurd (nI_le (a := w) (b := 10) (by omega) (by decide)) c2)
  refine lv_aload_n hx hb dX3_ofPond_25 rfl (lv_at hl 0 rfl) ?_
  refine sg_oq hx hb hts iX3_ofPond_X3 hown hK hw 0 (Or.inl ⟨rfl, rfl⟩) (hts _ mX3_ofPond_0) dX3_ofPond_26 ?_
  refine sg_rq (r := 0) hx hb hts iX3_ofPond_X2 hown hK hw (by omega) (hts _ mX3_ofPond_2) dX3_ofPond_29 ?_
  refine lv_iload_n hx hb dX3_ofPond_32 rfl (lv_at hl 1 rfl) ?_
  refine sg_q (r := 0) (k := k) hx hb hK hw (by omega) (by omega) rfl dX3_ofPond_33 ?_
  refine lv_iload_n hx hb dX3_ofPond_34 rfl (lv_at hl 2 rfl) ?_
  have hw := sH_foc (i := 5 + 8 * 0 + k) hw
  refine sc_i (sr_V (i := 5 + 8 * 0 + k) (As := [.int (nI w)]) (rest := []) ⟨hx, hb, hml, hown, hts⟩ (zX1_read l D a cs _ (5 + 8 * 0 + k) (by omega) _ w (by omega) _) (cwV 1 hts gX3_ofPond_X1_read rfl rfl rfl (by decide +kernel) ⟨Nat.le_of_ble_eq_true rfl, Nat.le_of_ble_eq_true rfl⟩) hK hN hw (by omega) (sE_p (by omega)) kcX1 rfl hl.1 (Nat.le_of_ble_eq_true rfl) dX3_ofPond_35 ⟨Nat.le_of_ble_eq_true rfl, Nat.le_of_ble_eq_true rfl⟩) hw hA (fun H locs hw => ?_)
  have hw := sH_unf hw
  exact se_i hx hb hr hlocks hw (by exact rfl) (by rfl) dX3_ofPond_38
theorem mX3_ofFamily_0 : (Cond.fieldLink RX3 21 "SaltRow" "families" "[LSaltRow$Family;") ∈ wsX3_ofFamily := by decide +kernel
theorem iX3_ofFamily_X3 : ∀ w ∈ wsX30, w ∈ wsX3_ofFamily := by decide +kernel
set_option maxHeartbeats 4000000 in
set_option maxRecDepth 100000 in
theorem zX3_ofFamily (l : Launch) (D : va_G) (a : Nat → Nat) (cs : Nat → ClassId) (σ : sS) (fc : Nat) (hfc : fc ≤ 6) (hc : σ 0 3 = nI fc) (j : Nat) (hj : j < fc) (w : Nat) (hw6 : w < 6) : sMi l yX3_ofFamily wsX3_ofFamily ({ frames := 3, cells := 0, slots := 0, locals := 67 }) D a cs [.ref (a 0), .int (nI j), .int (nI w)] σ (f_X0_read (σ (22 + j)) w) σ := by
  intro sz
  refine Met.ofW (cc := cX3_ofFamily) (maxL := 3) (ret := (some .int)) (by decide) rfl ?_
  intro p e s m args below meth c s₁ B hml hv
  obtain ⟨rfl, hsz, hv2⟩ := hv
  have hv3 : sB D a cs σ sz s := ⟨hsz, hv2⟩
  subst hsz
  have hw := sH_start hv3
  obtain ⟨-, -, hK, -, hN⟩ := hv3
  have hx := B.exec
  have hb := B.bytes
  have hr := B.returns
  have hts := atoms_spec (ws := wsX3_ofFamily) B.pre
  have hown : s.vm.findClass RX3 = some m.cls := findClass_of_methodNamed B.named
  have hlocks := B.notSynchronized
  have hA : ∀ q : Nat, s.heap.size ≤ q → sA a s.heap.size q := sA_new
  have hl := lv_entry ([.ref (a 0), .int (nI j), .int (nI w)]) (n := 3) (Nat.le_of_ble_eq_true rfl)
  rw [lg_entry_eq]
  generalize (lg_sl ([.ref (a 0), .int (nI j), .int (nI w)]) ++ List.replicate (3 - (lg_sl ([.ref (a 0), .int (nI j), .int (nI w)])).length) Slot.unset).toArray = ls at hl ⊢
  have hl : lv_has ls 3 [(0, .ref (a 0)), (1, .int (nI j)), (2, .int (nI w))] := hl
  refine lv_aload_n hx hb dX3_ofFamily_0 rfl (lv_at hl 0 rfl) ?_
  refine lv_iload_n hx hb dX3_ofFamily_1 rfl (lv_at hl 1 rfl) ?_
  refine sc_v (sr_V (i := 0) (As := [.int (nI j)]) (rest := []) ⟨hx, hb, hml, hown, hts⟩ (zX3_needFamily l D a cs _ j (by omega) (by rw [hc]; exact nI_lt (by omega) (by omega)) _) (cwV 1 hts gX3_ofFamily_X3_needFamily rfl rfl rfl (by decide +kernel) ⟨Nat.le_of_ble_eq_true rfl, Nat.le_of_ble_eq_true rfl⟩) hK hN hw (by omega) sE_o kcX3 rfl hl.1 (Nat.le_of_ble_eq_true rfl) dX3_ofFamily_2 ⟨Nat.le_of_ble_eq_true rfl, Nat.le_of_ble_eq_true rfl⟩) hw hA (fun H locs hw => ?_)
  refine lv_iload_n hx hb dX3_ofFamily_5 rfl (lv_at hl 2 rfl) ?_
  refine lv_if_lt (tgt := 14) hx hb dX3_ofFamily_6 (by decide) (fun c1 => absurd c1 (nI_pos (n := w) (by omega))) (fun c1 => ?_)
  refine lv_iload_n hx hb dX3_ofFamily_9 rfl (lv_at hl 2 rfl) ?_
  refine lv_iconst (v := 5) hx hb dX3_ofFamily_10 (by decide) ?_
  refine lv_icmp_le (tgt := 24) hx hb dX3_ofFamily_11 (by decide) (fun c2 => ?_) (fun c2 => absurd (nI_le (a := w) (b := 5) (by omega) (by decide)) c2)
  refine lv_aload_n hx hb dX3_ofFamily_24 rfl (lv_at hl 0 rfl) ?_
  refine sg_oq hx hb hts iX3_ofFamily_X3 hown hK hw 2 (Or.inr (Or.inr ⟨rfl, rfl⟩)) (hts _ mX3_ofFamily_0) dX3_ofFamily_25 ?_
  refine lv_iload_n hx hb dX3_ofFamily_28 rfl (lv_at hl 1 rfl) ?_
  refine sg_g (k := j) hx hb hK hw (by omega) rfl dX3_ofFamily_29 ?_
  refine lv_iload_n hx hb dX3_ofFamily_30 rfl (lv_at hl 2 rfl) ?_
  refine sc_i (sr_V (i := 22 + j) (As := [.int (nI w)]) (rest := []) ⟨hx, hb, hml, hown, hts⟩ (zX0_read l D a cs _ j (by omega) w (by omega) _) (cwV 1 hts gX3_ofFamily_X0_read rfl rfl rfl (by decide +kernel) ⟨Nat.le_of_ble_eq_true rfl, Nat.le_of_ble_eq_true rfl⟩) hK hN hw (by omega) (sE_f (by omega)) kcX0 rfl hl.1 (Nat.le_of_ble_eq_true rfl) dX3_ofFamily_31 ⟨Nat.le_of_ble_eq_true rfl, Nat.le_of_ble_eq_true rfl⟩) hw hA (fun H locs hw => ?_)
  exact se_i hx hb hr hlocks hw (by exact rfl) (by rfl) dX3_ofFamily_34
theorem mX3_rightOf_0 : (Cond.fieldLink RX3 21 "SaltRow" "families" "[LSaltRow$Family;") ∈ wsX3_rightOf := by decide +kernel
theorem iX3_rightOf_X3 : ∀ w ∈ wsX30, w ∈ wsX3_rightOf := by decide +kernel
theorem mX3_rightOf_2 : (Cond.fieldLink RX3 139 "SaltRow$Family" "rights" "[I") ∈ wsX3_rightOf := by decide +kernel
theorem iX3_rightOf_X0 : ∀ w ∈ wsX00, w ∈ wsX3_rightOf := by decide +kernel
set_option maxHeartbeats 4000000 in
set_option maxRecDepth 100000 in
theorem zX3_rightOf (l : Launch) (D : va_G) (a : Nat → Nat) (cs : Nat → ClassId) (σ : sS) (fc : Nat) (hfc : fc ≤ 6) (hc : σ 0 3 = nI fc) (j : Nat) (hj : j < fc) (q : Nat) (hq : q < 3) : sMi l yX3_rightOf wsX3_rightOf ({ frames := 1, cells := 0, slots := 0, locals := 21 }) D a cs [.ref (a 0), .int (nI j), .int (nI (5 + q))] σ (σ (28 + j) q) σ := by
  intro sz
  refine Met.ofW (cc := cX3_rightOf) (maxL := 3) (ret := (some .int)) (by decide) rfl ?_
  intro p e s m args below meth c s₁ B hml hv
  obtain ⟨rfl, hsz, hv2⟩ := hv
  have hv3 : sB D a cs σ sz s := ⟨hsz, hv2⟩
  subst hsz
  have hw := sH_start hv3
  obtain ⟨-, -, hK, -, hN⟩ := hv3
  have hx := B.exec
  have hb := B.bytes
  have hr := B.returns
  have hts := atoms_spec (ws := wsX3_rightOf) B.pre
  have hown : s.vm.findClass RX3 = some m.cls := findClass_of_methodNamed B.named
  have hlocks := B.notSynchronized
  have hA : ∀ q : Nat, s.heap.size ≤ q → sA a s.heap.size q := sA_new
  have hl := lv_entry ([.ref (a 0), .int (nI j), .int (nI (5 + q))]) (n := 3) (Nat.le_of_ble_eq_true rfl)
  rw [lg_entry_eq]
  generalize (lg_sl ([.ref (a 0), .int (nI j), .int (nI (5 + q))]) ++ List.replicate (3 - (lg_sl ([.ref (a 0), .int (nI j), .int (nI (5 + q))])).length) Slot.unset).toArray = ls at hl ⊢
  have hl : lv_has ls 3 [(0, .ref (a 0)), (1, .int (nI j)), (2, .int (nI (5 + q)))] := hl
  refine lv_aload_n hx hb dX3_rightOf_0 rfl (lv_at hl 0 rfl) ?_
  refine lv_iload_n hx hb dX3_rightOf_1 rfl (lv_at hl 1 rfl) ?_
  refine sc_v (sr_V (i := 0) (As := [.int (nI j)]) (rest := []) ⟨hx, hb, hml, hown, hts⟩ (zX3_needFamily l D a cs _ j (by omega) (by rw [hc]; exact nI_lt (by omega) (by omega)) _) (cwV 1 hts gX3_rightOf_X3_needFamily rfl rfl rfl (by decide +kernel) ⟨Nat.le_of_ble_eq_true rfl, Nat.le_of_ble_eq_true rfl⟩) hK hN hw (by omega) sE_o kcX3 rfl hl.1 (Nat.le_of_ble_eq_true rfl) dX3_rightOf_2 ⟨Nat.le_of_ble_eq_true rfl, Nat.le_of_ble_eq_true rfl⟩) hw hA (fun H locs hw => ?_)
  refine lv_aload_n hx hb dX3_rightOf_5 rfl (lv_at hl 0 rfl) ?_
  refine lv_iload_n hx hb dX3_rightOf_6 rfl (lv_at hl 2 rfl) ?_
  refine sc_v (sr_V (i := 0) (As := [.int (nI (5 + q))]) (rest := []) ⟨hx, hb, hml, hown, hts⟩ (zX3_needPan l D a cs _ q (by omega) _) (cwV 1 hts gX3_rightOf_X3_needPan rfl rfl rfl (by decide +kernel) ⟨Nat.le_of_ble_eq_true rfl, Nat.le_of_ble_eq_true rfl⟩) hK hN hw (by omega) sE_o kcX3 rfl hl.1 (Nat.le_of_ble_eq_true rfl) dX3_rightOf_7 ⟨Nat.le_of_ble_eq_true rfl, Nat.le_of_ble_eq_true rfl⟩) hw hA (fun H locs hw => ?_)
  refine lv_aload_n hx hb dX3_rightOf_10 rfl (lv_at hl 0 rfl) ?_
  refine sg_oq hx hb hts iX3_rightOf_X3 hown hK hw 2 (Or.inr (Or.inr ⟨rfl, rfl⟩)) (hts _ mX3_rightOf_0) dX3_rightOf_11 ?_
  refine lv_iload_n hx hb dX3_rightOf_14 rfl (lv_at hl 1 rfl) ?_
  refine sg_g (k := j) hx hb hK hw (by omega) rfl dX3_rightOf_15 ?_
  refine sg_fq (j := j) hx hb hts iX3_rightOf_X0 hown hK hw (by omega) (hts _ mX3_rightOf_2) dX3_rightOf_16 ?_
  refine lv_iload_n hx hb dX3_rightOf_19 rfl (lv_at hl 2 rfl) ?_
  refine lv_iconst (v := 5) hx hb dX3_rightOf_20 (by decide) ?_
  refine lv_isub hx hb dX3_rightOf_21 ?_
  refine sg_h (j := j) (k := q) hx hb hK hw (by omega) (by omega) (nI_sub5 q) dX3_rightOf_22 ?_
  exact se_i hx hb hr hlocks hw (by exact rfl) (by rfl) dX3_rightOf_23
theorem mX3_pass_0 : (Cond.fieldLink RX3 10 "SaltRow" "row" "LSaltRow$Row;") ∈ wsX3_pass := by decide +kernel
theorem iX3_pass_X3 : ∀ w ∈ wsX30, w ∈ wsX3_pass := by decide +kernel
theorem mX3_pass_2 : (Cond.fieldLink RX3 37 "SaltRow$Row" "day" "I") ∈ wsX3_pass := by decide +kernel
theorem iX3_pass_X2 : ∀ w ∈ wsX20, w ∈ wsX3_pass := by decide +kernel
set_option maxHeartbeats 4000000 in
set_option maxRecDepth 100000 in
theorem zX3_pass (l : Launch) (D : va_G) (a : Nat → Nat) (cs : Nat → ClassId) (σ : sS) (n0 : Nat) (hn : 1 ≤ n0 ∧ n0 ≤ 30) (x y z : Int32) (hx0 : ¬ x < 0) (hx9 : x ≤ 9) (hy0 : ¬ y < 0) (hy9 : y ≤ 9) (hz0 : ¬ z < 0) (hz40 : z ≤ 40) (hd : σ (1 + 0) 1 + nI n0 ≤ 5000) : sMi l yX3_pass wsX3_pass ({ frames := 4, cells := 0, slots := 0, locals := 99 }) D a cs [.ref (a 0), .int (nI n0), .int x, .int y, .int z] σ (f_X3_fell x y z n0 σ 0) (f_X3_days 0 x y z n0 σ) := by
  intro sz
  refine Met.ofW (cc := cX3_pass) (maxL := 7) (ret := (some .int)) (by decide) rfl ?_
  intro p e s m args below meth c s₁ B hml hv
  obtain ⟨rfl, hsz, hv2⟩ := hv
  have hv3 : sB D a cs σ sz s := ⟨hsz, hv2⟩
  subst hsz
  have hw := sH_start hv3
  obtain ⟨-, -, hK, -, hN⟩ := hv3
  have hx := B.exec
  have hb := B.bytes
  have hr := B.returns
  have hts := atoms_spec (ws := wsX3_pass) B.pre
  have hown : s.vm.findClass RX3 = some m.cls := findClass_of_methodNamed B.named
  have hlocks := B.notSynchronized
  have hA : ∀ q : Nat, s.heap.size ≤ q → sA a s.heap.size q := sA_new
  have hl := lv_entry ([.ref (a 0), .int (nI n0), .int x, .int y, .int z]) (n := 7) (Nat.le_of_ble_eq_true rfl)
  rw [lg_entry_eq]
  generalize (lg_sl ([.ref (a 0), .int (nI n0), .int x, .int y, .int z]) ++ List.replicate (7 - (lg_sl ([.ref (a 0), .int (nI n0), .int x, .int y, .int z])).length) Slot.unset).toArray = ls at hl ⊢
  have hl : lv_has ls 7 [(0, .ref (a 0)), (1, .int (nI n0)), (2, .int x), (3, .int y), (4, .int z)] := hl
  refine lv_iload_n hx hb dX3_pass_0 rfl (lv_at hl 1 rfl) ?_
  refine lv_iconst (v := 1) hx hb dX3_pass_1 (by decide) ?_
  refine lv_icmp_lt (tgt := 11) hx hb dX3_pass_2 (by decide) (fun c1 => absurd c1 (nI_nlt (a := n0) (b := 1) (by omega) (by omega))) (fun c1 => ?_)
  refine lv_iload_n hx hb dX3_pass_5 rfl (lv_at hl 1 rfl) ?_
  refine lv_bipush (v := 30) hx hb dX3_pass_6 (by decide) ?_
  refine lv_icmp_le (tgt := 21) hx hb dX3_pass_8 (by decide) (fun c2 => ?_) (fun c2 => absurd (nI_le (a := n0) (b := 30) (by omega) (by decide)) c2)
  refine lv_aload_n hx hb dX3_pass_21 rfl (lv_at hl 0 rfl) ?_
  refine lv_iload_n hx hb dX3_pass_22 rfl (lv_at hl 2 rfl) ?_
  refine lv_iload_n hx hb dX3_pass_23 rfl (lv_at hl 3 rfl) ?_
  refine sc_v (sr_V (i := 0) (As := [.int x, .int y]) (rest := []) ⟨hx, hb, hml, hown, hts⟩ (zX3_needWeather l D a cs _ x y hx0 hx9 hy0 hy9 _) (cwV 2 hts gX3_pass_X3_needWeather rfl rfl rfl (by decide +kernel) ⟨Nat.le_of_ble_eq_true rfl, Nat.le_of_ble_eq_true rfl⟩) hK hN hw (by omega) sE_o kcX3 rfl hl.1 (Nat.le_of_ble_eq_true rfl) dX3_pass_24 ⟨Nat.le_of_ble_eq_true rfl, Nat.le_of_ble_eq_true rfl⟩) hw hA (fun H locs hw => ?_)
  refine lv_iload hx hb dX3_pass_27 (lv_at hl 4 rfl) ?_
  refine lv_if_lt (tgt := 39) hx hb dX3_pass_29 (by decide) (fun c3 => absurd c3 hz0) (fun c3 => ?_)
  refine lv_iload hx hb dX3_pass_32 (lv_at hl 4 rfl) ?_
  refine lv_bipush (v := 40) hx hb dX3_pass_34 (by decide) ?_
  refine lv_icmp_le (tgt := 49) hx hb dX3_pass_36 (by decide) (fun c4 => ?_) (fun c4 => absurd hz40 c4)
  refine lv_aload_n hx hb dX3_pass_49 rfl (lv_at hl 0 rfl) ?_
  refine sg_oq hx hb hts iX3_pass_X3 hown hK hw 0 (Or.inl ⟨rfl, rfl⟩) (hts _ mX3_pass_0) dX3_pass_50 ?_
  refine sg_r (r := 0) hx hb hts iX3_pass_X2 hown hK hw (by omega) 1 (by decide) (hts _ mX3_pass_2) dX3_pass_53 ?_
  refine lv_iload_n hx hb dX3_pass_56 rfl (lv_at hl 1 rfl) ?_
  refine lv_iadd hx hb dX3_pass_57 ?_
  refine lv_sipush (v := 5000) hx hb dX3_pass_58 (by decide) ?_
  refine lv_icmp_le (tgt := 74) hx hb dX3_pass_61 (by decide) (fun c5 => ?_) (fun c5 => absurd hd c5)
  refine lv_iconst (v := 0) hx hb dX3_pass_74 (by decide) ?_
  refine lv_istore (lv' := [(5, .int 0), (0, .ref (a 0)), (1, .int (nI n0)), (2, .int x), (3, .int y), (4, .int z)]) hx hb dX3_pass_75 hl (by decide) rfl (fun ls hl => ?_)
  refine lv_iconst (v := 0) hx hb dX3_pass_77 (by decide) ?_
  refine lv_istore (lv' := [(6, .int 0), (5, .int 0), (0, .ref (a 0)), (1, .int (nI n0)), (2, .int x), (3, .int y), (4, .int z)]) hx hb dX3_pass_78 hl (by decide) rfl (fun ls hl => ?_)
  have loop : ∀ (Q : State → Prop) (n : Nat) (k : Nat) (τ : sS) (v : Int32) (H : Heap) (locs : List Loc) (ls : Array Slot), k + n = n0 → sH D a cs (sA a s.heap.size) s.heap τ H locs → lv_has ls 7 [(0, .ref (a 0)), (1, .int (nI n0)), (2, .int x), (3, .int y), (4, .int z), (5, .int v), (6, .int (nI k))] → (∀ (H : Heap) (locs : List Loc) (ls : Array Slot), sH D a cs (sA a s.heap.size) s.heap (f_X3_days 0 x y z n τ) H locs → lv_has ls 7 [(5, .int (f_X3_fell x y z n τ v))] → W p l e { frames := 4, cells := 0, slots := 0, locals := 99 } s m #[Value.ref (a 0), Value.int (nI n0), Value.int x, Value.int y, Value.int z] below meth c H locs 0 0 Q (F0 m 115 ls [])) → W p l e { frames := 4, cells := 0, slots := 0, locals := 99 } s m #[Value.ref (a 0), Value.int (nI n0), Value.int x, Value.int y, Value.int z] below meth c H locs 0 0 Q (F0 m 80 ls []) := by
    intro Q n
    induction n with
    | zero =>
      intro k τ v H locs ls hkn hw hl kont
      refine lv_iload hx hb dX3_pass_80 (lv_at hl 6 rfl) ?_
      refine lv_iload_n hx hb dX3_pass_82 rfl (lv_at hl 1 rfl) ?_
      refine lv_icmp_ge (tgt := 115) hx hb dX3_pass_83 (by decide) (fun c6 => ?_) (fun c6 => absurd (by rw [show k = n0 by omega]; exact Int32.le_refl _) c6)
      exact kont H locs ls hw (lv_sub hl [5] rfl)
    | succ n ih =>
      intro k τ v H locs ls hkn hw hl kont
      refine lv_iload hx hb dX3_pass_80 (lv_at hl 6 rfl) ?_
      refine lv_iload_n hx hb dX3_pass_82 rfl (lv_at hl 1 rfl) ?_
      refine lv_icmp_ge (tgt := 115) hx hb dX3_pass_83 (by decide) (fun c7 => absurd c7 (nI_ge (by omega) (by omega))) (fun c7 => ?_)
      refine lv_aload_n hx hb dX3_pass_86 rfl (lv_at hl 0 rfl) ?_
      refine sg_oq hx hb hts iX3_pass_X3 hown hK hw 0 (Or.inl ⟨rfl, rfl⟩) (hts _ mX3_pass_0) dX3_pass_87 ?_
      refine lv_iload_n hx hb dX3_pass_90 rfl (lv_at hl 2 rfl) ?_
      refine lv_iload_n hx hb dX3_pass_91 rfl (lv_at hl 3 rfl) ?_
      refine lv_iload hx hb dX3_pass_92 (lv_at hl 4 rfl) ?_
      refine sc_v (sr_V (i := 1 + 0) (As := [.int x, .int y, .int z]) (rest := []) ⟨hx, hb, hml, hown, hts⟩ (zX2_letDayGoBy l D a cs _ 0 (by omega) x y z _) (cwV 3 hts gX3_pass_X2_letDayGoBy rfl rfl rfl (by decide +kernel) ⟨Nat.le_of_ble_eq_true rfl, Nat.le_of_ble_eq_true rfl⟩) hK hN hw (by omega) (sE_r (by omega)) kcX2 rfl hl.1 (Nat.le_of_ble_eq_true rfl) dX3_pass_94 ⟨Nat.le_of_ble_eq_true rfl, Nat.le_of_ble_eq_true rfl⟩) hw hA (fun H locs hw => ?_)
      obtain ⟨τ8, eτ8⟩ : ∃ zz : sS, f_X2_letDayGoBy τ 0 x y z = zz := ⟨_, rfl⟩
      rw [eτ8] at hw
      refine lv_iload hx hb dX3_pass_97 (lv_at hl 5 rfl) ?_
      refine lv_aload_n hx hb dX3_pass_99 rfl (lv_at hl 0 rfl) ?_
      refine sg_oq hx hb hts iX3_pass_X3 hown hK hw 0 (Or.inl ⟨rfl, rfl⟩) (hts _ mX3_pass_0) dX3_pass_100 ?_
      refine sc_i (sr_V (i := 1 + 0) (As := []) (rest := [.int v]) ⟨hx, hb, hml, hown, hts⟩ (zX2_saltFallenInPans l D a cs _ 0 (by omega) _) (cwV 0 hts gX3_pass_X2_saltFallenInPans rfl rfl rfl (by decide +kernel) ⟨Nat.le_of_ble_eq_true rfl, Nat.le_of_ble_eq_true rfl⟩) hK hN hw (by omega) (sE_r (by omega)) kcX2 rfl hl.1 (Nat.le_of_ble_eq_true rfl) dX3_pass_103 ⟨Nat.le_of_ble_eq_true rfl, Nat.le_of_ble_eq_true rfl⟩) hw hA (fun H locs hw => ?_)
      refine lv_iadd hx hb dX3_pass_106 ?_
      refine lw_topi (fun x9 ex9 => ?_)
      refine lv_istore (lv' := [(5, .int x9), (0, .ref (a 0)), (1, .int (nI n0)), (2, .int x), (3, .int y), (4, .int z), (6, .int (nI k))]) hx hb dX3_pass_107 hl (by decide) rfl (fun ls hl => ?_)
      refine lv_iinc (v := nI (k + 1)) (lv' := [(6, .int (nI (k + 1))), (5, .int x9), (0, .ref (a 0)), (1, .int (nI n0)), (2, .int x), (3, .int y), (4, .int z)]) hx hb dX3_pass_109 hl (k := 6) rfl (nI_1 k) (by decide) rfl (fun ls hl => ?_)
      refine lv_goto (tgt := 80) hx hb dX3_pass_112 (by decide) ?_
      have hstep : f_X3_days 0 x y z (n + 1) τ = f_X3_days 0 x y z n τ8 := by
        subst ex9 eτ8; rfl
      have hval0 : f_X3_fell x y z (n + 1) τ v = f_X3_fell x y z n τ8 x9 := by
        subst ex9 eτ8; rfl
      exact ih (k + 1) τ8 x9 H locs ls (by omega) hw (lv_sub hl [2, 3, 4, 5, 6, 1, 0] rfl) (fun H locs ls hw hl => kont H locs ls (by rw [hstep]; exact hw) (by rw [hval0]; exact hl))
  refine loop _ n0 0 σ 0 _ _ _ (Nat.zero_add n0) hw (lv_sub hl [2, 3, 4, 5, 6, 1, 0] rfl) (fun H locs ls hw hl => ?_)
  obtain ⟨τ10, eτ10⟩ : ∃ zz : sS, f_X3_days 0 x y z n0 σ = zz := ⟨_, rfl⟩
  rw [eτ10] at hw
  refine lv_iload hx hb dX3_pass_115 (lv_at hl 0 rfl) ?_
  exact se_i hx hb hr hlocks hw (by subst eτ10; exact rfl) (by subst eτ10; exact rfl) dX3_pass_117
