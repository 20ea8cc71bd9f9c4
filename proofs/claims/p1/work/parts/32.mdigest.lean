theorem mX6_add_0 : (Cond.constantLong RX6 226 (31)) ∈ wsX6_add := by decide +kernel
set_option maxHeartbeats 4000000 in
set_option maxRecDepth 100000 in
theorem zX6_add (l : Launch) (D : va_G) (a : Nat → Nat) (cs : Nat → ClassId) (N : Nat) (hN : 10 ≤ N) (σ : sS) (d : Int64) (v : Int64) : mMl l yX6_add wsX6_add ({ frames := 0, cells := 0, slots := 0, locals := 0 }) 0 0 D a cs N [.long d, .long v] σ (g_X6_add d v) σ := by
  intro sz
  refine Met.ofW (cc := cX6_add) (maxL := 4) (ret := (some .long)) (by decide) rfl ?_
  intro p e s m args below meth c s₁ B hml hv
  obtain ⟨rfl, hsz, hv2⟩ := hv
  have hv3 : mB D a cs N σ sz s := ⟨hsz, hv2⟩
  subst hsz
  have hw := mH_start hv3
  obtain ⟨-, -, hK, -, hN2⟩ := hv3
  have hx := B.exec
  have hb := B.bytes
  have hr := B.returns
  have hts := atoms_spec (ws := wsX6_add) B.pre
  have hown : s.vm.findClass RX6 = some m.cls := findClass_of_methodNamed B.named
  have hlocks := B.notSynchronized
  have hA : ∀ q : Nat, s.heap.size ≤ q → mA a N s.heap.size q := mA_new
  have hl := lv_entry ([.long d, .long v]) (n := 4) (Nat.le_of_ble_eq_true rfl)
  rw [lg_entry_eq]
  generalize (lg_sl ([.long d, .long v]) ++ List.replicate (4 - (lg_sl ([.long d, .long v])).length) Slot.unset).toArray = ls at hl ⊢
  have hl : lv_has ls 4 [(0, .long d), (2, .long v)] := hl
  refine lv_lload_n hx hb dX6_add_0 rfl (lv_at hl 0 rfl) ?_
  refine lv_ldc2 (v := 31) hx hb hown (hts _ mX6_add_0) dX6_add_1 ?_
  refine lv_lmul hx hb dX6_add_4 ?_
  refine lv_lload_n hx hb dX6_add_5 rfl (lv_at hl 1 rfl) ?_
  refine lv_ladd hx hb dX6_add_6 ?_
  exact me_l hx hb hr hlocks hw (by exact rfl) (by rfl) dX6_add_7
theorem mX6_digest_0 : (Cond.fieldLink RX6 31 "SaltRowModel" "thrown" "I") ∈ wsX6_digest := by decide +kernel
theorem iX6_digest_X6 : ∀ w ∈ wsX60, w ∈ wsX6_digest := by decide +kernel
theorem mX6_digest_2 : (Cond.constantLong RX6 228 (7804)) ∈ wsX6_digest := by decide +kernel
theorem mX6_digest_3 : (Cond.fieldLink RX6 27 "SaltRowModel" "families" "Ljava/util/ArrayList;") ∈ wsX6_digest := by decide +kernel
set_option maxHeartbeats 4000000 in
set_option maxRecDepth 100000 in
theorem zX6_digest (l : Launch) (D : va_G) (a : Nat → Nat) (cs : Nat → ClassId) (N : Nat) (hN : 12 ≤ N) (σ : sS) (hf : mFr σ) : mMl l yX6_digest wsX6_digest ({ frames := 6, cells := 7289, slots := 69763, locals := 153 }) 7289 69763 D a cs N [.ref (a 10)] σ (g_X6_digest (m_thr σ 0)) (m_thr σ 0) := by
  intro sz
  refine Met.ofW (cc := cX6_digest) (maxL := 6) (ret := (some .long)) (by decide) rfl ?_
  intro p e s m args below meth c s₁ B hml hv
  obtain ⟨rfl, hsz, hv2⟩ := hv
  have hv3 : mB D a cs N σ sz s := ⟨hsz, hv2⟩
  subst hsz
  have hw := mH_start hv3
  obtain ⟨-, -, hK, -, hN2⟩ := hv3
  have hx := B.exec
  have hb := B.bytes
  have hr := B.returns
  have hts := atoms_spec (ws := wsX6_digest) B.pre
  have hown : s.vm.findClass RX6 = some m.cls := findClass_of_methodNamed B.named
  have hlocks := B.notSynchronized
  have hA : ∀ q : Nat, s.heap.size ≤ q → mA a N s.heap.size q := mA_new
  have hl := lv_entry ([.ref (a 10)]) (n := 6) (Nat.le_of_ble_eq_true rfl)
  rw [lg_entry_eq]
  generalize (lg_sl ([.ref (a 10)]) ++ List.replicate (6 - (lg_sl ([.ref (a 10)])).length) Slot.unset).toArray = ls at hl ⊢
  have hl : lv_has ls 6 [(0, .ref (a 10))] := hl
  refine lv_aload_n hx hb dX6_digest_0 rfl (lv_at hl 0 rfl) ?_
  refine lv_iconst (v := 0) hx hb dX6_digest_1 (by decide) ?_
  refine mp_o hx hb hts iX6_digest_X6 hown hK hw (by omega) 0 (by decide) (hts _ mX6_digest_0) dX6_digest_2 (fun H locs hw => ?_)
  obtain ⟨τ1, eτ1⟩ : ∃ zz : sS, va_up σ 10 (upd (σ 10) 0 0) = zz := ⟨_, rfl⟩
  rw [eτ1] at hw
  refine lv_ldc2 (v := 7804) hx hb hown (hts _ mX6_digest_2) dX6_digest_5 ?_
  refine lv_lstore_n (lv' := [(1, .long 7804), (0, .ref (a 10))]) hx hb dX6_digest_8 rfl hl (by decide) rfl (fun ls hl => ?_)
  refine lv_iconst (v := 0) hx hb dX6_digest_9 (by decide) ?_
  refine lv_istore_n (lv' := [(3, .int 0), (1, .long 7804), (0, .ref (a 10))]) hx hb dX6_digest_10 rfl hl (by decide) rfl (fun ls hl => ?_)
  have loop : ∀ (Q : State → Prop) (n : Nat) (k : Nat) (τ : sS) (v : Int64) (H : Heap) (locs : List Loc) (ls : Array Slot), k + n = 18 ∧ mFr τ → mH D a cs N (mA a N s.heap.size) s.heap τ ([]) H locs → lv_has ls 6 [(0, .ref (a 10)), (1, .long v), (3, .int (nI k))] → (∀ (H : Heap) (locs : List Loc) (ls : Array Slot), mH D a cs N (mA a N s.heap.size) s.heap (τ) ([]) H locs → lv_has ls 6 [(0, .ref (a 10)), (1, .long (g_dgM n v))] → W p l e { frames := 6, cells := 7289, slots := 69763, locals := 153 } s m #[Value.ref (a 10)] below meth c H locs (3 * 18) (27 * 18) Q (F0 m 34 ls [])) → W p l e { frames := 6, cells := 7289, slots := 69763, locals := 153 } s m #[Value.ref (a 10)] below meth c H locs (3 * k) (27 * k) Q (F0 m 11 ls []) := by
    intro Q n
    induction n with
    | zero =>
      intro k τ v H locs ls hkn hw hl kont
      refine lv_iload_n hx hb dX6_digest_11 rfl (lv_at hl 2 rfl) ?_
      refine lv_bipush (v := 18) hx hb dX6_digest_12 (by decide) ?_
      refine lv_icmp_ge (tgt := 34) hx hb dX6_digest_14 (by decide) (fun c2 => ?_) (fun c2 => absurd (by rw [show k = 18 by omega]; decide) c2)
      refine W.widen (k := 3 * 18) (n := 27 * 18) (by omega) (by omega) ?_
      exact kont H locs ls hw (lv_sub hl [0, 1] rfl)
    | succ n ih =>
      intro k τ v H locs ls hkn hw hl kont
      refine lv_iload_n hx hb dX6_digest_11 rfl (lv_at hl 2 rfl) ?_
      refine lv_bipush (v := 18) hx hb dX6_digest_12 (by decide) ?_
      refine lv_icmp_ge (tgt := 34) hx hb dX6_digest_14 (by decide) (fun c3 => absurd c3 (nI_ge (a := k) (b := 18) (by omega) (by decide))) (fun c3 => ?_)
      refine lv_lload_n hx hb dX6_digest_17 rfl (lv_at hl 1 rfl) ?_
      refine lv_aload_n hx hb dX6_digest_18 rfl (lv_at hl 0 rfl) ?_
      refine lv_iload_n hx hb dX6_digest_19 rfl (lv_at hl 2 rfl) ?_
      refine mc_i (mr_V (i := 10) (As := [.int (nI k)]) (rest := [.long v]) ⟨hx, hb, hml, hown, hts⟩ (zX6_count l D a cs N (by omega) _ hkn.2 k (by omega) _) (cwV 1 hts gX6_digest_X6_count rfl rfl rfl (by decide +kernel) ⟨Nat.le_of_ble_eq_true rfl, Nat.le_of_ble_eq_true rfl⟩) hK hN2 hw (by omega) mE_o kcX6 rfl hl.1 (Nat.le_of_ble_eq_true rfl) dX6_digest_20 ⟨by show (3 * k) + 3 ≤ 7289; omega, by show (27 * k) + 27 ≤ 69763; omega⟩) hw hA (fun H locs hw => ?_)
      refine lv_i2l hx hb dX6_digest_23 rfl ?_
      refine mc_l (mr_S (As := [.long v, .long ((0 : Int32).toInt64)]) (rest := []) ⟨hx, hb, hml, hown, hts⟩ (zX6_add l D a cs N (by omega) _ v ((0 : Int32).toInt64) _) (va_cwS 2 hts gX6_digest_X6_add rfl rfl rfl (by decide +kernel) ⟨Nat.le_of_ble_eq_true rfl, Nat.le_of_ble_eq_true rfl⟩) hK hN2 hw rfl hl.1 (Nat.le_of_ble_eq_true rfl) dX6_digest_24 ⟨by show ((3 * k) + 3) + 0 ≤ 7289; omega, by show ((27 * k) + 27) + 0 ≤ 69763; omega⟩) hw hA (fun H locs hw => ?_)
      refine lw_topl (fun x4 ex4 => ?_)
      refine lv_lstore_n (lv' := [(1, .long x4), (0, .ref (a 10)), (3, .int (nI k))]) hx hb dX6_digest_27 rfl hl (by decide) rfl (fun ls hl => ?_)
      refine lv_iinc (v := nI (k + 1)) (lv' := [(3, .int (nI (k + 1))), (1, .long x4), (0, .ref (a 10))]) hx hb dX6_digest_28 hl (k := 2) rfl (nI_1 k) (by decide) rfl (fun ls hl => ?_)
      refine lv_goto (tgt := 11) hx hb dX6_digest_31 (by decide) ?_
      have hstep : τ = τ := by
        subst ex4; rfl
      have hval0 : g_dgM (n + 1) v = g_dgM n x4 := by
        subst ex4; rfl
      refine W.widen (k := 3 * (k + 1)) (n := 27 * (k + 1)) (by omega) (by omega) ?_
      exact ih (k + 1) τ x4 H locs ls ⟨by omega, hkn.2⟩ hw (lv_sub hl [2, 1, 0] rfl) (fun H locs ls hw hl => kont H locs ls (by rw [hstep]; exact hw) (by rw [hval0]; exact hl))
  refine loop _ 18 0 τ1 7804 _ _ _ ⟨by decide, (by subst eτ1; exact mFr_thr hf)⟩ hw (lv_sub hl [2, 1, 0] rfl) (fun H locs ls hw hl => ?_)
  obtain ⟨τ5, eτ5⟩ : ∃ zz : sS, τ1 = zz := ⟨_, rfl⟩
  rw [eτ5] at hw
  refine lv_iconst (v := 0) hx hb dX6_digest_34 (by decide) ?_
  refine lv_istore_n (lv' := [(3, .int 0), (0, .ref (a 10)), (1, .long (g_dgM 18 7804))]) hx hb dX6_digest_35 rfl hl (by decide) rfl (fun ls hl => ?_)
  have loop2 : ∀ (Q : State → Prop) (n : Nat) (k : Nat) (τ : sS) (v : Int64) (H : Heap) (locs : List Loc) (ls : Array Slot), k + n = 8 ∧ mFr τ → mH D a cs N (mA a N s.heap.size) s.heap τ ([]) H locs → lv_has ls 6 [(0, .ref (a 10)), (1, .long v), (3, .int (nI k))] → (∀ (H : Heap) (locs : List Loc) (ls : Array Slot), mH D a cs N (mA a N s.heap.size) s.heap (τ) ([]) H locs → lv_has ls 6 [(0, .ref (a 10)), (1, .long (g_dgP τ n k v))] → W p l e { frames := 6, cells := 7289, slots := 69763, locals := 153 } s m #[Value.ref (a 10)] below meth c H locs (54 + 11 * 8) (486 + 121 * 8) Q (F0 m 77 ls [])) → W p l e { frames := 6, cells := 7289, slots := 69763, locals := 153 } s m #[Value.ref (a 10)] below meth c H locs (54 + 11 * k) (486 + 121 * k) Q (F0 m 36 ls []) := by
    intro Q n
    induction n with
    | zero =>
      intro k τ v H locs ls hkn hw hl kont
      refine lv_iload_n hx hb dX6_digest_36 rfl (lv_at hl 2 rfl) ?_
      refine lv_bipush (v := 8) hx hb dX6_digest_37 (by decide) ?_
      refine lv_icmp_ge (tgt := 77) hx hb dX6_digest_39 (by decide) (fun c6 => ?_) (fun c6 => absurd (by rw [show k = 8 by omega]; decide) c6)
      refine W.widen (k := 54 + 11 * 8) (n := 486 + 121 * 8) (by omega) (by omega) ?_
      exact kont H locs ls hw (lv_sub hl [0, 1] rfl)
    | succ n ih =>
      intro k τ v H locs ls hkn hw hl kont
      refine lv_iload_n hx hb dX6_digest_36 rfl (lv_at hl 2 rfl) ?_
      refine lv_bipush (v := 8) hx hb dX6_digest_37 (by decide) ?_
      refine lv_icmp_ge (tgt := 77) hx hb dX6_digest_39 (by decide) (fun c7 => absurd c7 (nI_ge (a := k) (b := 8) (by omega) (by decide))) (fun c7 => ?_)
      refine lv_iconst (v := 0) hx hb dX6_digest_42 (by decide) ?_
      refine lv_istore (lv' := [(4, .int 0), (0, .ref (a 10)), (1, .long v), (3, .int (nI k))]) hx hb dX6_digest_43 hl (by decide) rfl (fun ls hl => ?_)
      have loop3 : ∀ (Q : State → Prop) (n2 : Nat) (k2 : Nat) (τ2 : sS) (v2 : Int64) (H : Heap) (locs : List Loc) (ls : Array Slot), k2 + n2 = 11 ∧ mFr τ2 → mH D a cs N (mA a N s.heap.size) s.heap τ2 ([]) H locs → lv_has ls 6 [(0, .ref (a 10)), (1, .long v2), (3, .int (nI k)), (4, .int (nI k2))] → (∀ (H : Heap) (locs : List Loc) (ls : Array Slot), mH D a cs N (mA a N s.heap.size) s.heap (τ2) ([]) H locs → lv_has ls 6 [(0, .ref (a 10)), (1, .long (g_dgR (τ2 (2 + k)) n2 k2 v2)), (3, .int (nI k))] → W p l e { frames := 6, cells := 7289, slots := 69763, locals := 153 } s m #[Value.ref (a 10)] below meth c H locs (54 + 11 * k + 11) (486 + 121 * k + 11 * 11) Q (F0 m 71 ls [])) → W p l e { frames := 6, cells := 7289, slots := 69763, locals := 153 } s m #[Value.ref (a 10)] below meth c H locs (54 + 11 * k + k2) (486 + 121 * k + 11 * k2) Q (F0 m 45 ls []) := by
        intro Q n2
        induction n2 with
        | zero =>
          intro k2 τ2 v2 H locs ls hkn2 hw hl kont2
          refine lv_iload hx hb dX6_digest_45 (lv_at hl 3 rfl) ?_
          refine lv_bipush (v := 11) hx hb dX6_digest_47 (by decide) ?_
          refine lv_icmp_ge (tgt := 71) hx hb dX6_digest_49 (by decide) (fun c8 => ?_) (fun c8 => absurd (by rw [show k2 = 11 by omega]; decide) c8)
          refine W.widen (k := 54 + 11 * k + 11) (n := 486 + 121 * k + 11 * 11) (by omega) (by omega) ?_
          exact kont2 H locs ls hw (lv_sub hl [0, 1, 2] rfl)
        | succ n2 ih2 =>
          intro k2 τ2 v2 H locs ls hkn2 hw hl kont2
          refine lv_iload hx hb dX6_digest_45 (lv_at hl 3 rfl) ?_
          refine lv_bipush (v := 11) hx hb dX6_digest_47 (by decide) ?_
          refine lv_icmp_ge (tgt := 71) hx hb dX6_digest_49 (by decide) (fun c9 => absurd c9 (nI_ge (a := k2) (b := 11) (by omega) (by decide))) (fun c9 => ?_)
          refine lv_lload_n hx hb dX6_digest_52 rfl (lv_at hl 1 rfl) ?_
          refine lv_aload_n hx hb dX6_digest_53 rfl (lv_at hl 0 rfl) ?_
          refine lv_iload_n hx hb dX6_digest_54 rfl (lv_at hl 2 rfl) ?_
          refine lv_iload hx hb dX6_digest_55 (lv_at hl 3 rfl) ?_
          refine mc_i (mr_V (i := 10) (As := [.int (nI k), .int (nI k2)]) (rest := [.long v2]) ⟨hx, hb, hml, hown, hts⟩ (zX6_toldOfPond l D a cs N (by omega) _ k (by omega) k2 (by omega) (by rw [hkn2.2.2.1 k (by omega)]; decide) (by rw [hkn2.2.2.2.1 k (by omega), hkn2.2.2.2.2.1]; decide) _) (cwV 2 hts gX6_digest_X6_toldOfPond rfl rfl rfl (by decide +kernel) ⟨Nat.le_of_ble_eq_true rfl, Nat.le_of_ble_eq_true rfl⟩) hK hN2 hw (by omega) mE_o kcX6 rfl hl.1 (Nat.le_of_ble_eq_true rfl) dX6_digest_57 ⟨by show (54 + 11 * k + k2) + 1 ≤ 7289; omega, by show (486 + 121 * k + 11 * k2) + 11 ≤ 69763; omega⟩) hw hA (fun H locs hw => ?_)
          refine lv_i2l hx hb dX6_digest_60 rfl ?_
          refine mc_l (mr_S (As := [.long v2, .long ((g_tell (τ2 (2 + k)) k2).toInt64)]) (rest := []) ⟨hx, hb, hml, hown, hts⟩ (zX6_add l D a cs N (by omega) _ v2 ((g_tell (τ2 (2 + k)) k2).toInt64) _) (va_cwS 2 hts gX6_digest_X6_add rfl rfl rfl (by decide +kernel) ⟨Nat.le_of_ble_eq_true rfl, Nat.le_of_ble_eq_true rfl⟩) hK hN2 hw rfl hl.1 (Nat.le_of_ble_eq_true rfl) dX6_digest_61 ⟨by show ((54 + 11 * k + k2) + 1) + 0 ≤ 7289; omega, by show ((486 + 121 * k + 11 * k2) + 11) + 0 ≤ 69763; omega⟩) hw hA (fun H locs hw => ?_)
          refine lw_topl (fun x10 ex10 => ?_)
          refine lv_lstore_n (lv' := [(1, .long x10), (0, .ref (a 10)), (3, .int (nI k)), (4, .int (nI k2))]) hx hb dX6_digest_64 rfl hl (by decide) rfl (fun ls hl => ?_)
          refine lv_iinc (v := nI (k2 + 1)) (lv' := [(4, .int (nI (k2 + 1))), (1, .long x10), (0, .ref (a 10)), (3, .int (nI k))]) hx hb dX6_digest_65 hl (k := 3) rfl (nI_1 k2) (by decide) rfl (fun ls hl => ?_)
          refine lv_goto (tgt := 45) hx hb dX6_digest_68 (by decide) ?_
          have hstep : τ2 = τ2 := by
            subst ex10; rfl
          have hval0 : g_dgR (τ2 (2 + k)) (n2 + 1) k2 v2 = g_dgR (τ2 (2 + k)) n2 (k2 + 1) x10 := by
            subst ex10; rfl
          refine W.widen (k := 54 + 11 * k + (k2 + 1)) (n := 486 + 121 * k + 11 * (k2 + 1)) (by omega) (by omega) ?_
          exact ih2 (k2 + 1) τ2 x10 H locs ls ⟨by omega, hkn2.2⟩ hw (lv_sub hl [2, 1, 3, 0] rfl) (fun H locs ls hw hl => kont2 H locs ls (by rw [hstep]; exact hw) (by rw [hval0]; exact hl))
      refine loop3 _ 11 0 τ v _ _ _ ⟨by decide, hkn.2⟩ hw (lv_sub hl [1, 2, 3, 0] rfl) (fun H locs ls hw hl => ?_)
      obtain ⟨τ11, eτ11⟩ : ∃ zz : sS, τ = zz := ⟨_, rfl⟩
      rw [eτ11] at hw
      refine lv_iinc (v := nI (k + 1)) (lv' := [(3, .int (nI (k + 1))), (0, .ref (a 10)), (1, .long (g_dgR (τ (2 + k)) 11 0 v))]) hx hb dX6_digest_71 hl (k := 2) rfl (nI_1 k) (by decide) rfl (fun ls hl => ?_)
      refine lv_goto (tgt := 36) hx hb dX6_digest_74 (by decide) ?_
      have hstep : τ = τ11 := by
        subst eτ11; rfl
      have hval0 : g_dgP τ (n + 1) k v = g_dgP τ11 n (k + 1) (g_dgR (τ (2 + k)) 11 0 v) := by
        subst eτ11; rfl
      refine W.widen (k := 54 + 11 * (k + 1)) (n := 486 + 121 * (k + 1)) (by omega) (by omega) ?_
      exact ih (k + 1) τ11 (g_dgR (τ (2 + k)) 11 0 v) H locs ls ⟨by omega, (by subst eτ11; exact hkn.2)⟩ hw (lv_sub hl [1, 2, 0] rfl) (fun H locs ls hw hl => kont H locs ls (by rw [hstep]; exact hw) (by rw [hval0]; exact hl))
  refine loop2 _ 8 0 τ5 (g_dgM 18 7804) _ _ _ ⟨by decide, (by subst eτ5 eτ1; exact mFr_thr hf)⟩ hw (lv_sub hl [1, 2, 0] rfl) (fun H locs ls hw hl => ?_)
  obtain ⟨τ12, eτ12⟩ : ∃ zz : sS, τ5 = zz := ⟨_, rfl⟩
  rw [eτ12] at hw
  refine lv_aload_n hx hb dX6_digest_77 rfl (lv_at hl 0 rfl) ?_
  refine mg_o2 hx hb hts iX6_digest_X6 hown hK hw (by omega) (hts _ mX6_digest_3) dX6_digest_78 ?_
  refine va_callr (va_runV (As := []) (rest := []) ⟨hx, hb, hml, hown, hts⟩ (zJL_iter l D (a 11) (a 12) _ (τ12 11)) (cwV 0 hts gX6_digest_Jx4a65c_iterator_32c93 rfl rfl rfl (by decide +kernel) ⟨Nat.le_of_ble_eq_true rfl, Nat.le_of_ble_eq_true rfl⟩) ⟨fun v U g mk z => by obtain ⟨z0, z1, zP, zK, zD⟩ := z; exact ⟨z0, z1, zP, va_K.moved (u := U) (U := U.calling g mk v) (Vm.Alike.refl U.vm) zK, zD⟩, va_recv hK (mP_one (i := 11) hw (by omega)) (ci := kJL) (q0 := 0) kcJL rfl, fun U hU hW => ⟨rfl, by rw [hU], by rw [hU]; exact mP_one (i := 11) hw (by omega), va_K.moved hW.alike (hK.sub (tys' := []) [] rfl), (mD_one (i := 11) hw (by omega)).weaken (fun _ _ _ _ => trivial)⟩⟩ rfl rfl hl.1 rfl (lv_room (Nat.le_of_ble_eq_true rfl)) dX6_digest_81 ⟨Nat.le_of_ble_eq_true rfl, Nat.le_of_ble_eq_true rfl⟩) hw.2.2 (fun q _ h => mA_one (i := 11) hw hA (by omega) q h) (fun q h => mA_one (i := 11) hw hA (by omega) q h) (fun _ q13 t H1 locs ht hvm _ hB hz1 hk1 hS => ?_)
  obtain ⟨hP1, hD1⟩ := hB
  rw [ht] at hP1
  have hw := mH_one (i := 11) (x := q13) (ex := mIt (a 11) (τ12 11 0)) hw hA (by omega) hk1 hP1 hD1 hS
  clear hP1 hD1 hk1 hz1 hS ht
  generalize H1 = H at hw ⊢
  refine lv_astore_n (lv' := [(3, .ref q13), (0, .ref (a 10)), (1, .long (g_dgP τ5 8 0 (g_dgM 18 7804)))]) hx hb dX6_digest_84 rfl hl (by decide) rfl (fun ls hl => ?_)
  refine lv_aload_n hx hb dX6_digest_85 rfl (lv_at hl 0 rfl) ?_
  refine va_callFi (va_runF (As := []) (rest := []) (hK.1 kJI _ kcJI).2 ⟨hx, hb, hml, hown, hts⟩ (zJI_hasNext l D q13 (a 11) (a 12) _ (τ12 11 0) (τ12 11) (by subst eτ12 eτ5 eτ1; exact (mFr_thr hf).2.2.2.2.2.2)) (va_cwF 0 hts gX6_digest_Jx35411_hasNext_aae02_f136Jx35411 rfl rfl rfl (mN_HN hN2) (by decide +kernel) ⟨Nat.le_of_ble_eq_true rfl, Nat.le_of_ble_eq_true rfl⟩) ⟨fun v U g mk z => by obtain ⟨z0, z1, zP, zK, zN⟩ := z; exact ⟨z0, z1, zP, va_K.moved (u := U) (U := U.calling g mk v) (Vm.Alike.refl U.vm) zK, mN_same (u := U) (U := U.calling g mk v) rfl zN⟩, va_recv hK (mP_two (i := 11) (j := 0) (q := q13) (ex := mIt (a 11) (τ12 11 0)) hw (by omega) rfl) (ci := kJI) (q0 := 0) kcJI rfl, fun U hU hW => ⟨rfl, by rw [hU], by rw [hU]; exact mP_two (i := 11) (j := 0) (q := q13) (ex := mIt (a 11) (τ12 11 0)) hw (by omega) rfl, va_K.moved hW.alike (hK.sub (tys' := []) [] rfl), mN_warm hW hN2⟩⟩ rfl rfl hl.1 rfl (lv_room (Nat.le_of_ble_eq_true rfl)) dX6_digest_86 ⟨Nat.le_of_ble_eq_true rfl, Nat.le_of_ble_eq_true rfl⟩) hw.2.2 (fun q h1 h2 => absurd h1 (Nat.not_lt.mpr h2)) (fun q h => hA q (Nat.le_trans hw.2.2.1 h)) (fun r _ t H1 locs ht hvm hr0 _ hz1 hk1 hS => ?_)
  subst hr0
  have hw := mH_dropx (mH_same hw hk1 hS)
  clear hk1 hz1 hS ht
  generalize H1 = H at hw ⊢
  refine lv_if_eq (tgt := 164) hx hb dX6_digest_91 (by decide) (fun c14 => ?_) (fun c14 => absurd (by decide) c14)
  refine lv_iconst (v := 5) hx hb dX6_digest_164 (by decide) ?_
  refine lv_istore_n (lv' := [(3, .int 5), (0, .ref (a 10)), (1, .long (g_dgP τ5 8 0 (g_dgM 18 7804)))]) hx hb dX6_digest_165 rfl hl (by decide) rfl (fun ls hl => ?_)
  have loop4 : ∀ (Q : State → Prop) (n : Nat) (k : Nat) (τ : sS) (v : Int64) (H : Heap) (locs : List Loc) (ls : Array Slot), k + n = 3 ∧ mFr τ → mH D a cs N (mA a N s.heap.size) s.heap τ ([]) H locs → lv_has ls 6 [(0, .ref (a 10)), (1, .long v), (3, .int (nI (5 + k)))] → (∀ (H : Heap) (locs : List Loc) (ls : Array Slot), mH D a cs N (mA a N s.heap.size) s.heap (τ) ([]) H locs → lv_has ls 6 [(0, .ref (a 10)), (1, .long (g_dgC τ n k v))] → W p l e { frames := 6, cells := 7289, slots := 69763, locals := 153 } s m #[Value.ref (a 10)] below meth c H locs (143 + 78 * 3) (1458 + 667 * 3) Q (F0 m 192 ls [])) → W p l e { frames := 6, cells := 7289, slots := 69763, locals := 153 } s m #[Value.ref (a 10)] below meth c H locs (143 + 78 * k) (1458 + 667 * k) Q (F0 m 166 ls []) := by
    intro Q n
    induction n with
    | zero =>
      intro k τ v H locs ls hkn hw hl kont
      refine lv_iload_n hx hb dX6_digest_166 rfl (lv_at hl 2 rfl) ?_
      refine lv_bipush (v := 8) hx hb dX6_digest_167 (by decide) ?_
      refine lv_icmp_ge (tgt := 192) hx hb dX6_digest_169 (by decide) (fun c15 => ?_) (fun c15 => absurd (by rw [show k = 3 by omega]; decide) c15)
      refine W.widen (k := 143 + 78 * 3) (n := 1458 + 667 * 3) (by omega) (by omega) ?_
      exact kont H locs ls hw (lv_sub hl [0, 1] rfl)
    | succ n ih =>
      intro k τ v H locs ls hkn hw hl kont
      refine lv_iload_n hx hb dX6_digest_166 rfl (lv_at hl 2 rfl) ?_
      refine lv_bipush (v := 8) hx hb dX6_digest_167 (by decide) ?_
      refine lv_icmp_ge (tgt := 192) hx hb dX6_digest_169 (by decide) (fun c16 => absurd c16 (nI_ge (a := 5 + k) (b := 8) (by omega) (by decide))) (fun c16 => ?_)
      refine lv_lload_n hx hb dX6_digest_172 rfl (lv_at hl 1 rfl) ?_
      refine lv_aload_n hx hb dX6_digest_173 rfl (lv_at hl 0 rfl) ?_
      refine lv_iload_n hx hb dX6_digest_174 rfl (lv_at hl 2 rfl) ?_
      refine lv_bipush (v := 7) hx hb dX6_digest_175 (by decide) ?_
      refine lv_iconst (v := 3) hx hb dX6_digest_177 (by decide) ?_
      refine mc_i (mr_V (i := 10) (As := [.int (nI (5 + k)), .int 7, .int 3]) (rest := [.long v]) ⟨hx, hb, hml, hown, hts⟩ (zX6_crustBehind l D a cs N (by omega) _ (mFr_z hkn.2) (mFr_ar hkn.2) k (by omega) 7 3 _) (cwV 3 hts gX6_digest_X6_crustBehind rfl rfl rfl (by decide +kernel) ⟨Nat.le_of_ble_eq_true rfl, Nat.le_of_ble_eq_true rfl⟩) hK hN2 hw (by omega) mE_o kcX6 rfl hl.1 (Nat.le_of_ble_eq_true rfl) dX6_digest_178 ⟨by show (143 + 78 * k) + 78 ≤ 7289; omega, by show (1458 + 667 * k) + 667 ≤ 69763; omega⟩) hw hA (fun H locs hw => ?_)
      refine lv_i2l hx hb dX6_digest_181 rfl ?_
      refine mc_l (mr_S (As := [.long v, .long ((g_X6_crustB τ k 7 3).toInt64)]) (rest := []) ⟨hx, hb, hml, hown, hts⟩ (zX6_add l D a cs N (by omega) _ v ((g_X6_crustB τ k 7 3).toInt64) _) (va_cwS 2 hts gX6_digest_X6_add rfl rfl rfl (by decide +kernel) ⟨Nat.le_of_ble_eq_true rfl, Nat.le_of_ble_eq_true rfl⟩) hK hN2 hw rfl hl.1 (Nat.le_of_ble_eq_true rfl) dX6_digest_182 ⟨by show ((143 + 78 * k) + 78) + 0 ≤ 7289; omega, by show ((1458 + 667 * k) + 667) + 0 ≤ 69763; omega⟩) hw hA (fun H locs hw => ?_)
      refine lw_topl (fun x17 ex17 => ?_)
      refine lv_lstore_n (lv' := [(1, .long x17), (0, .ref (a 10)), (3, .int (nI (5 + k)))]) hx hb dX6_digest_185 rfl hl (by decide) rfl (fun ls hl => ?_)
      refine lv_iinc (v := nI ((5 + k) + 1)) (lv' := [(3, .int (nI ((5 + k) + 1))), (1, .long x17), (0, .ref (a 10))]) hx hb dX6_digest_186 hl (k := 2) rfl (nI_1 (5 + k)) (by decide) rfl (fun ls hl => ?_)
      refine lv_goto (tgt := 166) hx hb dX6_digest_189 (by decide) ?_
      have hstep : τ = τ := by
        subst ex17; rfl
      have hval0 : g_dgC τ (n + 1) k v = g_dgC τ n (k + 1) x17 := by
        subst ex17; rfl
      refine W.widen (k := 143 + 78 * (k + 1)) (n := 1458 + 667 * (k + 1)) (by omega) (by omega) ?_
      exact ih (k + 1) τ x17 H locs ls ⟨by omega, hkn.2⟩ hw (lv_sub hl [2, 1, 0] rfl) (fun H locs ls hw hl => kont H locs ls (by rw [hstep]; exact hw) (by rw [hval0]; exact hl))
  refine loop4 _ 3 0 τ12 (g_dgP τ5 8 0 (g_dgM 18 7804)) _ _ _ ⟨by decide, (by subst eτ12 eτ5 eτ1; exact mFr_thr hf)⟩ hw (lv_sub hl [1, 2, 0] rfl) (fun H locs ls hw hl => ?_)
  obtain ⟨τ18, eτ18⟩ : ∃ zz : sS, τ12 = zz := ⟨_, rfl⟩
  rw [eτ18] at hw
  refine lv_lload_n hx hb dX6_digest_192 rfl (lv_at hl 1 rfl) ?_
  refine lv_aload_n hx hb dX6_digest_193 rfl (lv_at hl 0 rfl) ?_
  refine lv_iconst (v := 3) hx hb dX6_digest_194 (by decide) ?_
  refine lv_bipush (v := 6) hx hb dX6_digest_195 (by decide) ?_
  refine lv_iconst (v := 2) hx hb dX6_digest_197 (by decide) ?_
  refine mc_i (mr_V (i := 10) (As := [.int 3, .int 6, .int 2]) (rest := [.long (g_dgC τ12 3 0 (g_dgP τ5 8 0 (g_dgM 18 7804)))]) ⟨hx, hb, hml, hown, hts⟩ (zX6_best l D a cs N (by omega) _ (by subst eτ18 eτ12 eτ5 eτ1; exact mFr_z (mFr_thr hf)) (by subst eτ18 eτ12 eτ5 eτ1; exact mFr_ar (mFr_thr hf)) 3 (by decide) 6 2 _) (cwV 3 hts gX6_digest_X6_best rfl rfl rfl (by decide +kernel) ⟨Nat.le_of_ble_eq_true rfl, Nat.le_of_ble_eq_true rfl⟩) hK hN2 hw (by omega) mE_o kcX6 rfl hl.1 (Nat.le_of_ble_eq_true rfl) dX6_digest_198 ⟨Nat.le_of_ble_eq_true rfl, Nat.le_of_ble_eq_true rfl⟩) hw hA (fun H locs hw => ?_)
  refine lv_i2l hx hb dX6_digest_201 rfl ?_
  refine mc_l (mr_S (As := [.long (g_dgC τ12 3 0 (g_dgP τ5 8 0 (g_dgM 18 7804))), .long ((g_X6_best τ18 3 6 2).toInt64)]) (rest := []) ⟨hx, hb, hml, hown, hts⟩ (zX6_add l D a cs N (by omega) _ (g_dgC τ12 3 0 (g_dgP τ5 8 0 (g_dgM 18 7804))) ((g_X6_best τ18 3 6 2).toInt64) _) (va_cwS 2 hts gX6_digest_X6_add rfl rfl rfl (by decide +kernel) ⟨Nat.le_of_ble_eq_true rfl, Nat.le_of_ble_eq_true rfl⟩) hK hN2 hw rfl hl.1 (Nat.le_of_ble_eq_true rfl) dX6_digest_202 ⟨Nat.le_of_ble_eq_true rfl, Nat.le_of_ble_eq_true rfl⟩) hw hA (fun H locs hw => ?_)
  refine lw_topl (fun x19 ex19 => ?_)
  refine lv_lstore_n (lv' := [(1, .long x19), (0, .ref (a 10))]) hx hb dX6_digest_205 rfl hl (by decide) rfl (fun ls hl => ?_)
  refine lv_lload_n hx hb dX6_digest_206 rfl (lv_at hl 0 rfl) ?_
  refine lv_aload_n hx hb dX6_digest_207 rfl (lv_at hl 1 rfl) ?_
  refine lv_bipush (v := 9) hx hb dX6_digest_208 (by decide) ?_
  refine lv_iconst (v := 1) hx hb dX6_digest_210 (by decide) ?_
  refine mc_i (mr_V (i := 10) (As := [.int 9, .int 1]) (rest := [.long x19]) ⟨hx, hb, hml, hown, hts⟩ (zX6_tideFrom l D a cs N (by omega) _ (by subst ex19 eτ18 eτ12 eτ5 eτ1; exact (mFr_thr hf).2.2.2.1) 9 1 _) (cwV 2 hts gX6_digest_X6_tideFrom rfl rfl rfl (by decide +kernel) ⟨Nat.le_of_ble_eq_true rfl, Nat.le_of_ble_eq_true rfl⟩) hK hN2 hw (by omega) mE_o kcX6 rfl hl.1 (Nat.le_of_ble_eq_true rfl) dX6_digest_211 ⟨Nat.le_of_ble_eq_true rfl, Nat.le_of_ble_eq_true rfl⟩) hw hA (fun H locs hw => ?_)
  refine lv_i2l hx hb dX6_digest_214 rfl ?_
  refine mc_l (mr_S (As := [.long x19, .long ((g_X6_tideV 9 1 14 0).toInt64)]) (rest := []) ⟨hx, hb, hml, hown, hts⟩ (zX6_add l D a cs N (by omega) _ x19 ((g_X6_tideV 9 1 14 0).toInt64) _) (va_cwS 2 hts gX6_digest_X6_add rfl rfl rfl (by decide +kernel) ⟨Nat.le_of_ble_eq_true rfl, Nat.le_of_ble_eq_true rfl⟩) hK hN2 hw rfl hl.1 (Nat.le_of_ble_eq_true rfl) dX6_digest_215 ⟨Nat.le_of_ble_eq_true rfl, Nat.le_of_ble_eq_true rfl⟩) hw hA (fun H locs hw => ?_)
  refine lv_aload_n hx hb dX6_digest_218 rfl (lv_at hl 1 rfl) ?_
  refine lv_iconst (v := 3) hx hb dX6_digest_219 (by decide) ?_
  refine lv_iconst (v := 0) hx hb dX6_digest_220 (by decide) ?_
  refine mc_i (mr_V (i := 10) (As := [.int 3, .int 0]) (rest := [.long (g_X6_add x19 ((g_X6_tideV 9 1 14 0).toInt64))]) ⟨hx, hb, hml, hown, hts⟩ (zX6_tideFrom l D a cs N (by omega) _ (by subst ex19 eτ18 eτ12 eτ5 eτ1; exact (mFr_thr hf).2.2.2.1) 3 0 _) (cwV 2 hts gX6_digest_X6_tideFrom rfl rfl rfl (by decide +kernel) ⟨Nat.le_of_ble_eq_true rfl, Nat.le_of_ble_eq_true rfl⟩) hK hN2 hw (by omega) mE_o kcX6 rfl hl.1 (Nat.le_of_ble_eq_true rfl) dX6_digest_221 ⟨Nat.le_of_ble_eq_true rfl, Nat.le_of_ble_eq_true rfl⟩) hw hA (fun H locs hw => ?_)
  refine lv_i2l hx hb dX6_digest_224 rfl ?_
  refine mc_l (mr_S (As := [.long (g_X6_add x19 ((g_X6_tideV 9 1 14 0).toInt64)), .long ((g_X6_tideV 3 0 14 0).toInt64)]) (rest := []) ⟨hx, hb, hml, hown, hts⟩ (zX6_add l D a cs N (by omega) _ (g_X6_add x19 ((g_X6_tideV 9 1 14 0).toInt64)) ((g_X6_tideV 3 0 14 0).toInt64) _) (va_cwS 2 hts gX6_digest_X6_add rfl rfl rfl (by decide +kernel) ⟨Nat.le_of_ble_eq_true rfl, Nat.le_of_ble_eq_true rfl⟩) hK hN2 hw rfl hl.1 (Nat.le_of_ble_eq_true rfl) dX6_digest_225 ⟨Nat.le_of_ble_eq_true rfl, Nat.le_of_ble_eq_true rfl⟩) hw hA (fun H locs hw => ?_)
  exact me_l hx hb hr hlocks hw (by subst ex19 eτ18 eτ12 eτ5 eτ1; rfl) (by subst ex19 eτ18 eτ12 eτ5 eτ1; rfl) dX6_digest_228
