theorem mX3_digestOfFamily_0 : (Cond.constantLong RX3 273 (31)) ∈ wsX3_digestOfFamily := by decide +kernel
set_option maxHeartbeats 4000000 in
set_option maxRecDepth 100000 in
theorem zX3_digestOfFamily (l : Launch) (D : va_G) (a : Nat → Nat) (cs : Nat → ClassId) (σ : sS) (fc : Nat) (hfc : fc ≤ 6) (hc : σ 0 3 = nI fc) (j : Nat) (hj : j < fc) (d0 : Int64) : sMl l yX3_digestOfFamily wsX3_digestOfFamily ({ frames := 4, cells := 0, slots := 0, locals := 89 }) D a cs [.ref (a 0), .int (nI j), .long d0] σ (f_X3_digestOfFamily σ j d0) σ := by
  intro sz
  refine Met.ofW (cc := cX3_digestOfFamily) (maxL := 7) (ret := (some .long)) (by decide) rfl ?_
  intro p e s m args below meth c s₁ B hml hv
  obtain ⟨rfl, hsz, hv2⟩ := hv
  have hv3 : sB D a cs σ sz s := ⟨hsz, hv2⟩
  subst hsz
  have hw := sH_start hv3
  obtain ⟨-, -, hK, -, hN⟩ := hv3
  have hx := B.exec
  have hb := B.bytes
  have hr := B.returns
  have hts := atoms_spec (ws := wsX3_digestOfFamily) B.pre
  have hown : s.vm.findClass RX3 = some m.cls := findClass_of_methodNamed B.named
  have hlocks := B.notSynchronized
  have hA : ∀ q : Nat, s.heap.size ≤ q → sA a s.heap.size q := sA_new
  have hl := lv_entry ([.ref (a 0), .int (nI j), .long d0]) (n := 7) (Nat.le_of_ble_eq_true rfl)
  rw [lg_entry_eq]
  generalize (lg_sl ([.ref (a 0), .int (nI j), .long d0]) ++ List.replicate (7 - (lg_sl ([.ref (a 0), .int (nI j), .long d0])).length) Slot.unset).toArray = ls at hl ⊢
  have hl : lv_has ls 7 [(0, .ref (a 0)), (1, .int (nI j)), (2, .long d0)] := hl
  refine lv_lload_n hx hb dX3_digestOfFamily_0 rfl (lv_at hl 2 rfl) ?_
  refine lv_lstore (lv' := [(4, .long d0), (0, .ref (a 0)), (1, .int (nI j)), (2, .long d0)]) hx hb dX3_digestOfFamily_1 hl (by decide) rfl (fun ls hl => ?_)
  refine lv_iconst (v := 0) hx hb dX3_digestOfFamily_3 (by decide) ?_
  refine lv_istore (lv' := [(6, .int 0), (4, .long d0), (0, .ref (a 0)), (1, .int (nI j)), (2, .long d0)]) hx hb dX3_digestOfFamily_4 hl (by decide) rfl (fun ls hl => ?_)
  have loop : ∀ (Q : State → Prop) (n : Nat) (k : Nat) (τ : sS) (v : Int64) (H : Heap) (locs : List Loc) (ls : Array Slot), k + n = 6 ∧ τ 0 3 = nI fc → sH D a cs (sA a s.heap.size) s.heap τ H locs → lv_has ls 7 [(0, .ref (a 0)), (1, .int (nI j)), (4, .long v), (6, .int (nI k))] → (∀ (H : Heap) (locs : List Loc) (ls : Array Slot), sH D a cs (sA a s.heap.size) s.heap (τ) H locs → lv_has ls 7 [(0, .ref (a 0)), (1, .int (nI j)), (4, .long (f_dgA τ j n k v))] → W p l e { frames := 4, cells := 0, slots := 0, locals := 89 } s m #[Value.ref (a 0), Value.int (nI j), Value.long d0] below meth c H locs 0 0 Q (F0 m 35 ls [])) → W p l e { frames := 4, cells := 0, slots := 0, locals := 89 } s m #[Value.ref (a 0), Value.int (nI j), Value.long d0] below meth c H locs 0 0 Q (F0 m 6 ls []) := by
    intro Q n
    induction n with
    | zero =>
      intro k τ v H locs ls hkn hw hl kont
      refine lv_iload hx hb dX3_digestOfFamily_6 (lv_at hl 3 rfl) ?_
      refine lv_iconst (v := 5) hx hb dX3_digestOfFamily_8 (by decide) ?_
      refine lv_icmp_gt (tgt := 35) hx hb dX3_digestOfFamily_9 (by decide) (fun c1 => ?_) (fun c1 => absurd (by rw [show k = 6 by omega]; decide) c1)
      exact kont H locs ls hw (lv_sub hl [0, 1, 2] rfl)
    | succ n ih =>
      intro k τ v H locs ls hkn hw hl kont
      refine lv_iload hx hb dX3_digestOfFamily_6 (lv_at hl 3 rfl) ?_
      refine lv_iconst (v := 5) hx hb dX3_digestOfFamily_8 (by decide) ?_
      refine lv_icmp_gt (tgt := 35) hx hb dX3_digestOfFamily_9 (by decide) (fun c2 => absurd c2 (nI_nlt (a := 5) (b := k) (by omega) (by decide))) (fun c2 => ?_)
      refine lv_lload hx hb dX3_digestOfFamily_12 (lv_at hl 2 rfl) ?_
      refine lv_ldc2 (v := 31) hx hb hown (hts _ mX3_digestOfFamily_0) dX3_digestOfFamily_14 ?_
      refine lv_lmul hx hb dX3_digestOfFamily_17 ?_
      refine lv_aload_n hx hb dX3_digestOfFamily_18 rfl (lv_at hl 0 rfl) ?_
      refine lv_iload_n hx hb dX3_digestOfFamily_19 rfl (lv_at hl 1 rfl) ?_
      refine lv_iload hx hb dX3_digestOfFamily_20 (lv_at hl 3 rfl) ?_
      refine sc_i (sr_V (i := 0) (As := [.int (nI j), .int (nI k)]) (rest := [.long (v * 31)]) ⟨hx, hb, hml, hown, hts⟩ (zX3_ofFamily l D a cs _ fc hfc hkn.2 j hj k (by omega) _) (cwV 2 hts gX3_digestOfFamily_X3_ofFamily rfl rfl rfl (by decide +kernel) ⟨Nat.le_of_ble_eq_true rfl, Nat.le_of_ble_eq_true rfl⟩) hK hN hw (by omega) sE_o kcX3 rfl hl.1 (Nat.le_of_ble_eq_true rfl) dX3_digestOfFamily_22 ⟨Nat.le_of_ble_eq_true rfl, Nat.le_of_ble_eq_true rfl⟩) hw hA (fun H locs hw => ?_)
      refine lv_i2l hx hb dX3_digestOfFamily_25 rfl ?_
      refine lv_ladd hx hb dX3_digestOfFamily_26 ?_
      refine lv_lstore (lv' := [(4, .long ((v * 31) + ((f_X0_read (τ (22 + j)) k).toInt64))), (0, .ref (a 0)), (1, .int (nI j)), (6, .int (nI k))]) hx hb dX3_digestOfFamily_27 hl (by decide) rfl (fun ls hl => ?_)
      refine lv_iinc (v := nI (k + 1)) (lv' := [(6, .int (nI (k + 1))), (4, .long ((v * 31) + ((f_X0_read (τ (22 + j)) k).toInt64))), (0, .ref (a 0)), (1, .int (nI j))]) hx hb dX3_digestOfFamily_29 hl (k := 3) rfl (nI_1 k) (by decide) rfl (fun ls hl => ?_)
      refine lv_goto (tgt := 6) hx hb dX3_digestOfFamily_32 (by decide) ?_
      have hstep : τ = τ := by
        rfl
      have hval0 : f_dgA τ j (n + 1) k v = f_dgA τ j n (k + 1) ((v * 31) + ((f_X0_read (τ (22 + j)) k).toInt64)) := by
        rfl
      exact ih (k + 1) τ ((v * 31) + ((f_X0_read (τ (22 + j)) k).toInt64)) H locs ls ⟨by omega, hkn.2⟩ hw (lv_sub hl [2, 3, 1, 0] rfl) (fun H locs ls hw hl => kont H locs ls (by rw [hstep]; exact hw) (by rw [hval0]; exact hl))
  refine loop _ 6 0 σ d0 _ _ _ ⟨by decide, hc⟩ hw (lv_sub hl [2, 3, 1, 0] rfl) (fun H locs ls hw hl => ?_)
  obtain ⟨τ3, eτ3⟩ : ∃ zz : sS, σ = zz := ⟨_, rfl⟩
  rw [eτ3] at hw
  refine lv_iconst (v := 5) hx hb dX3_digestOfFamily_35 (by decide) ?_
  refine lv_istore (lv' := [(6, .int 5), (0, .ref (a 0)), (1, .int (nI j)), (4, .long (f_dgA σ j 6 0 d0))]) hx hb dX3_digestOfFamily_36 hl (by decide) rfl (fun ls hl => ?_)
  have loop2 : ∀ (Q : State → Prop) (n : Nat) (k : Nat) (τ : sS) (v : Int64) (H : Heap) (locs : List Loc) (ls : Array Slot), k + n = 3 ∧ τ 0 3 = nI fc → sH D a cs (sA a s.heap.size) s.heap τ H locs → lv_has ls 7 [(0, .ref (a 0)), (1, .int (nI j)), (4, .long v), (6, .int (nI (5 + k)))] → (∀ (H : Heap) (locs : List Loc) (ls : Array Slot), sH D a cs (sA a s.heap.size) s.heap (τ) H locs → lv_has ls 7 [(4, .long (f_dgB τ j n k v))] → W p l e { frames := 4, cells := 0, slots := 0, locals := 89 } s m #[Value.ref (a 0), Value.int (nI j), Value.long d0] below meth c H locs 0 0 Q (F0 m 68 ls [])) → W p l e { frames := 4, cells := 0, slots := 0, locals := 89 } s m #[Value.ref (a 0), Value.int (nI j), Value.long d0] below meth c H locs 0 0 Q (F0 m 38 ls []) := by
    intro Q n
    induction n with
    | zero =>
      intro k τ v H locs ls hkn hw hl kont
      refine lv_iload hx hb dX3_digestOfFamily_38 (lv_at hl 3 rfl) ?_
      refine lv_bipush (v := 8) hx hb dX3_digestOfFamily_40 (by decide) ?_
      refine lv_icmp_ge (tgt := 68) hx hb dX3_digestOfFamily_42 (by decide) (fun c4 => ?_) (fun c4 => absurd (by rw [show k = 3 by omega]; decide) c4)
      exact kont H locs ls hw (lv_sub hl [2] rfl)
    | succ n ih =>
      intro k τ v H locs ls hkn hw hl kont
      refine lv_iload hx hb dX3_digestOfFamily_38 (lv_at hl 3 rfl) ?_
      refine lv_bipush (v := 8) hx hb dX3_digestOfFamily_40 (by decide) ?_
      refine lv_icmp_ge (tgt := 68) hx hb dX3_digestOfFamily_42 (by decide) (fun c5 => absurd c5 (nI_ge (a := 5 + k) (b := 8) (by omega) (by decide))) (fun c5 => ?_)
      refine lv_lload hx hb dX3_digestOfFamily_45 (lv_at hl 2 rfl) ?_
      refine lv_ldc2 (v := 31) hx hb hown (hts _ mX3_digestOfFamily_0) dX3_digestOfFamily_47 ?_
      refine lv_lmul hx hb dX3_digestOfFamily_50 ?_
      refine lv_aload_n hx hb dX3_digestOfFamily_51 rfl (lv_at hl 0 rfl) ?_
      refine lv_iload_n hx hb dX3_digestOfFamily_52 rfl (lv_at hl 1 rfl) ?_
      refine lv_iload hx hb dX3_digestOfFamily_53 (lv_at hl 3 rfl) ?_
      refine sc_i (sr_V (i := 0) (As := [.int (nI j), .int (nI (5 + k))]) (rest := [.long (v * 31)]) ⟨hx, hb, hml, hown, hts⟩ (zX3_rightOf l D a cs _ fc hfc hkn.2 j hj k (by omega) _) (cwV 2 hts gX3_digestOfFamily_X3_rightOf rfl rfl rfl (by decide +kernel) ⟨Nat.le_of_ble_eq_true rfl, Nat.le_of_ble_eq_true rfl⟩) hK hN hw (by omega) sE_o kcX3 rfl hl.1 (Nat.le_of_ble_eq_true rfl) dX3_digestOfFamily_55 ⟨Nat.le_of_ble_eq_true rfl, Nat.le_of_ble_eq_true rfl⟩) hw hA (fun H locs hw => ?_)
      refine lv_i2l hx hb dX3_digestOfFamily_58 rfl ?_
      refine lv_ladd hx hb dX3_digestOfFamily_59 ?_
      refine lv_lstore (lv' := [(4, .long ((v * 31) + ((τ (28 + j) k).toInt64))), (0, .ref (a 0)), (1, .int (nI j)), (6, .int (nI (5 + k)))]) hx hb dX3_digestOfFamily_60 hl (by decide) rfl (fun ls hl => ?_)
      refine lv_iinc (v := nI ((5 + k) + 1)) (lv' := [(6, .int (nI ((5 + k) + 1))), (4, .long ((v * 31) + ((τ (28 + j) k).toInt64))), (0, .ref (a 0)), (1, .int (nI j))]) hx hb dX3_digestOfFamily_62 hl (k := 3) rfl (nI_1 (5 + k)) (by decide) rfl (fun ls hl => ?_)
      refine lv_goto (tgt := 38) hx hb dX3_digestOfFamily_65 (by decide) ?_
      have hstep : τ = τ := by
        rfl
      have hval0 : f_dgB τ j (n + 1) k v = f_dgB τ j n (k + 1) ((v * 31) + ((τ (28 + j) k).toInt64)) := by
        rfl
      exact ih (k + 1) τ ((v * 31) + ((τ (28 + j) k).toInt64)) H locs ls ⟨by omega, hkn.2⟩ hw (lv_sub hl [2, 3, 1, 0] rfl) (fun H locs ls hw hl => kont H locs ls (by rw [hstep]; exact hw) (by rw [hval0]; exact hl))
  refine loop2 _ 3 0 τ3 (f_dgA σ j 6 0 d0) _ _ _ ⟨by decide, (by subst eτ3; exact hc)⟩ hw (lv_sub hl [1, 2, 3, 0] rfl) (fun H locs ls hw hl => ?_)
  obtain ⟨τ6, eτ6⟩ : ∃ zz : sS, τ3 = zz := ⟨_, rfl⟩
  rw [eτ6] at hw
  refine lv_lload hx hb dX3_digestOfFamily_68 (lv_at hl 0 rfl) ?_
  exact se_l hx hb hr hlocks hw (by subst eτ6 eτ3; exact rfl) (by subst eτ6 eτ3; rfl) dX3_digestOfFamily_70
theorem mX3_digest_0 : (Cond.constantLong RX3 271 (7804)) ∈ wsX3_digest := by decide +kernel
theorem mX3_digest_1 : (Cond.constantLong RX3 273 (31)) ∈ wsX3_digest := by decide +kernel
theorem mX3_digest_2 : (Cond.fieldLink RX3 129 "SaltRow" "familyCount" "I") ∈ wsX3_digest := by decide +kernel
theorem iX3_digest_X3 : ∀ w ∈ wsX30, w ∈ wsX3_digest := by decide +kernel
set_option maxHeartbeats 4000000 in
set_option maxRecDepth 100000 in
theorem zX3_digest (l : Launch) (D : va_G) (a : Nat → Nat) (cs : Nat → ClassId) (σ : sS) (fc : Nat) (hfc : fc ≤ 6) (hc : σ 0 3 = nI fc) (hz : sZ σ) : sMl l yX3_digest wsX3_digest ({ frames := 6, cells := 0, slots := 0, locals := 151 }) D a cs [.ref (a 0)] σ (f_X3_digest σ fc) (f_X3_digestS σ) := by
  intro sz
  refine Met.ofW (cc := cX3_digest) (maxL := 5) (ret := (some .long)) (by decide) rfl ?_
  intro p e s m args below meth c s₁ B hml hv
  obtain ⟨rfl, hsz, hv2⟩ := hv
  have hv3 : sB D a cs σ sz s := ⟨hsz, hv2⟩
  subst hsz
  have hw := sH_start hv3
  obtain ⟨-, -, hK, -, hN⟩ := hv3
  have hx := B.exec
  have hb := B.bytes
  have hr := B.returns
  have hts := atoms_spec (ws := wsX3_digest) B.pre
  have hown : s.vm.findClass RX3 = some m.cls := findClass_of_methodNamed B.named
  have hlocks := B.notSynchronized
  have hA : ∀ q : Nat, s.heap.size ≤ q → sA a s.heap.size q := sA_new
  have hl := lv_entry ([.ref (a 0)]) (n := 5) (Nat.le_of_ble_eq_true rfl)
  rw [lg_entry_eq]
  generalize (lg_sl ([.ref (a 0)]) ++ List.replicate (5 - (lg_sl ([.ref (a 0)])).length) Slot.unset).toArray = ls at hl ⊢
  have hl : lv_has ls 5 [(0, .ref (a 0))] := hl
  refine lv_ldc2 (v := 7804) hx hb hown (hts _ mX3_digest_0) dX3_digest_0 ?_
  refine lv_lstore_n (lv' := [(1, .long 7804), (0, .ref (a 0))]) hx hb dX3_digest_3 rfl hl (by decide) rfl (fun ls hl => ?_)
  refine lv_iconst (v := 0) hx hb dX3_digest_4 (by decide) ?_
  refine lv_istore_n (lv' := [(3, .int 0), (1, .long 7804), (0, .ref (a 0))]) hx hb dX3_digest_5 rfl hl (by decide) rfl (fun ls hl => ?_)
  have loop : ∀ (Q : State → Prop) (n : Nat) (k : Nat) (τ : sS) (v : Int64) (H : Heap) (locs : List Loc) (ls : Array Slot), k + n = 18 ∧ τ 0 3 = nI fc → sH D a cs (sA a s.heap.size) s.heap τ H locs → lv_has ls 5 [(0, .ref (a 0)), (1, .long v), (3, .int (nI k))] → (∀ (H : Heap) (locs : List Loc) (ls : Array Slot), sH D a cs (sA a s.heap.size) s.heap (τ) H locs → lv_has ls 5 [(0, .ref (a 0)), (1, .long (f_dgM τ fc n k v))] → W p l e { frames := 6, cells := 0, slots := 0, locals := 151 } s m #[Value.ref (a 0)] below meth c H locs 0 0 Q (F0 m 31 ls [])) → W p l e { frames := 6, cells := 0, slots := 0, locals := 151 } s m #[Value.ref (a 0)] below meth c H locs 0 0 Q (F0 m 6 ls []) := by
    intro Q n
    induction n with
    | zero =>
      intro k τ v H locs ls hkn hw hl kont
      refine lv_iload_n hx hb dX3_digest_6 rfl (lv_at hl 2 rfl) ?_
      refine lv_bipush (v := 17) hx hb dX3_digest_7 (by decide) ?_
      refine lv_icmp_gt (tgt := 31) hx hb dX3_digest_9 (by decide) (fun c1 => ?_) (fun c1 => absurd (by rw [show k = 18 by omega]; decide) c1)
      exact kont H locs ls hw (lv_sub hl [0, 1] rfl)
    | succ n ih =>
      intro k τ v H locs ls hkn hw hl kont
      refine lv_iload_n hx hb dX3_digest_6 rfl (lv_at hl 2 rfl) ?_
      refine lv_bipush (v := 17) hx hb dX3_digest_7 (by decide) ?_
      refine lv_icmp_gt (tgt := 31) hx hb dX3_digest_9 (by decide) (fun c2 => absurd c2 (nI_nlt (a := 17) (b := k) (by omega) (by decide))) (fun c2 => ?_)
      refine lv_lload_n hx hb dX3_digest_12 rfl (lv_at hl 1 rfl) ?_
      refine lv_ldc2 (v := 31) hx hb hown (hts _ mX3_digest_1) dX3_digest_13 ?_
      refine lv_lmul hx hb dX3_digest_16 ?_
      refine lv_aload_n hx hb dX3_digest_17 rfl (lv_at hl 0 rfl) ?_
      refine lv_iload_n hx hb dX3_digest_18 rfl (lv_at hl 2 rfl) ?_
      refine sc_i (sr_V (i := 0) (As := [.int (nI k)]) (rest := [.long (v * 31)]) ⟨hx, hb, hml, hown, hts⟩ (zX3_many l D a cs _ fc hfc hkn.2 k (by omega) _) (cwV 1 hts gX3_digest_X3_many rfl rfl rfl (by decide +kernel) ⟨Nat.le_of_ble_eq_true rfl, Nat.le_of_ble_eq_true rfl⟩) hK hN hw (by omega) sE_o kcX3 rfl hl.1 (Nat.le_of_ble_eq_true rfl) dX3_digest_19 ⟨Nat.le_of_ble_eq_true rfl, Nat.le_of_ble_eq_true rfl⟩) hw hA (fun H locs hw => ?_)
      refine lv_i2l hx hb dX3_digest_22 rfl ?_
      refine lv_ladd hx hb dX3_digest_23 ?_
      refine lw_topl (fun x3 ex3 => ?_)
      refine lv_lstore_n (lv' := [(1, .long x3), (0, .ref (a 0)), (3, .int (nI k))]) hx hb dX3_digest_24 rfl hl (by decide) rfl (fun ls hl => ?_)
      refine lv_iinc (v := nI (k + 1)) (lv' := [(3, .int (nI (k + 1))), (1, .long x3), (0, .ref (a 0))]) hx hb dX3_digest_25 hl (k := 2) rfl (nI_1 k) (by decide) rfl (fun ls hl => ?_)
      refine lv_goto (tgt := 6) hx hb dX3_digest_28 (by decide) ?_
      have hstep : τ = τ := by
        subst ex3; rfl
      have hval0 : f_dgM τ fc (n + 1) k v = f_dgM τ fc n (k + 1) x3 := by
        subst ex3; rfl
      exact ih (k + 1) τ x3 H locs ls ⟨by omega, hkn.2⟩ hw (lv_sub hl [2, 1, 0] rfl) (fun H locs ls hw hl => kont H locs ls (by rw [hstep]; exact hw) (by rw [hval0]; exact hl))
  refine loop _ 18 0 σ 7804 _ _ _ ⟨by decide, hc⟩ hw (lv_sub hl [2, 1, 0] rfl) (fun H locs ls hw hl => ?_)
  obtain ⟨τ4, eτ4⟩ : ∃ zz : sS, σ = zz := ⟨_, rfl⟩
  rw [eτ4] at hw
  refine lv_iconst (v := 0) hx hb dX3_digest_31 (by decide) ?_
  refine lv_istore_n (lv' := [(3, .int 0), (0, .ref (a 0)), (1, .long (f_dgM σ fc 18 0 7804))]) hx hb dX3_digest_32 rfl hl (by decide) rfl (fun ls hl => ?_)
  have loop2 : ∀ (Q : State → Prop) (n : Nat) (k : Nat) (τ : sS) (v : Int64) (H : Heap) (locs : List Loc) (ls : Array Slot), k + n = 8 → sH D a cs (sA a s.heap.size) s.heap τ H locs → lv_has ls 5 [(0, .ref (a 0)), (1, .long v), (3, .int (nI k))] → (∀ (H : Heap) (locs : List Loc) (ls : Array Slot), sH D a cs (sA a s.heap.size) s.heap (τ) H locs → lv_has ls 5 [(0, .ref (a 0)), (1, .long (f_dgP τ n k v))] → W p l e { frames := 6, cells := 0, slots := 0, locals := 151 } s m #[Value.ref (a 0)] below meth c H locs 0 0 Q (F0 m 76 ls [])) → W p l e { frames := 6, cells := 0, slots := 0, locals := 151 } s m #[Value.ref (a 0)] below meth c H locs 0 0 Q (F0 m 33 ls []) := by
    intro Q n
    induction n with
    | zero =>
      intro k τ v H locs ls hkn hw hl kont
      refine lv_iload_n hx hb dX3_digest_33 rfl (lv_at hl 2 rfl) ?_
      refine lv_bipush (v := 8) hx hb dX3_digest_34 (by decide) ?_
      refine lv_icmp_ge (tgt := 76) hx hb dX3_digest_36 (by decide) (fun c5 => ?_) (fun c5 => absurd (by rw [show k = 8 by omega]; decide) c5)
      exact kont H locs ls hw (lv_sub hl [0, 1] rfl)
    | succ n ih =>
      intro k τ v H locs ls hkn hw hl kont
      refine lv_iload_n hx hb dX3_digest_33 rfl (lv_at hl 2 rfl) ?_
      refine lv_bipush (v := 8) hx hb dX3_digest_34 (by decide) ?_
      refine lv_icmp_ge (tgt := 76) hx hb dX3_digest_36 (by decide) (fun c6 => absurd c6 (nI_ge (a := k) (b := 8) (by omega) (by decide))) (fun c6 => ?_)
      refine lv_iconst (v := 0) hx hb dX3_digest_39 (by decide) ?_
      refine lv_istore (lv' := [(4, .int 0), (0, .ref (a 0)), (1, .long v), (3, .int (nI k))]) hx hb dX3_digest_40 hl (by decide) rfl (fun ls hl => ?_)
      have loop3 : ∀ (Q : State → Prop) (n2 : Nat) (k2 : Nat) (τ : sS) (v : Int64) (H : Heap) (locs : List Loc) (ls : Array Slot), k2 + n2 = 11 → sH D a cs (sA a s.heap.size) s.heap τ H locs → lv_has ls 5 [(0, .ref (a 0)), (1, .long v), (3, .int (nI k)), (4, .int (nI k2))] → (∀ (H : Heap) (locs : List Loc) (ls : Array Slot), sH D a cs (sA a s.heap.size) s.heap (τ) H locs → lv_has ls 5 [(0, .ref (a 0)), (1, .long (f_dgR (τ (5 + 8 * 0 + k)) n2 k2 v)), (3, .int (nI k))] → W p l e { frames := 6, cells := 0, slots := 0, locals := 151 } s m #[Value.ref (a 0)] below meth c H locs 0 0 Q (F0 m 70 ls [])) → W p l e { frames := 6, cells := 0, slots := 0, locals := 151 } s m #[Value.ref (a 0)] below meth c H locs 0 0 Q (F0 m 42 ls []) := by
        intro Q n2
        induction n2 with
        | zero =>
          intro k2 τ v H locs ls hkn2 hw hl kont2
          refine lv_iload hx hb dX3_digest_42 (lv_at hl 3 rfl) ?_
          refine lv_bipush (v := 10) hx hb dX3_digest_44 (by decide) ?_
          refine lv_icmp_gt (tgt := 70) hx hb dX3_digest_46 (by decide) (fun c7 => ?_) (fun c7 => absurd (by rw [show k2 = 11 by omega]; decide) c7)
          exact kont2 H locs ls hw (lv_sub hl [0, 1, 2] rfl)
        | succ n2 ih2 =>
          intro k2 τ v H locs ls hkn2 hw hl kont2
          refine lv_iload hx hb dX3_digest_42 (lv_at hl 3 rfl) ?_
          refine lv_bipush (v := 10) hx hb dX3_digest_44 (by decide) ?_
          refine lv_icmp_gt (tgt := 70) hx hb dX3_digest_46 (by decide) (fun c8 => absurd c8 (nI_nlt (a := 10) (b := k2) (by omega) (by decide))) (fun c8 => ?_)
          refine lv_lload_n hx hb dX3_digest_49 rfl (lv_at hl 1 rfl) ?_
          refine lv_ldc2 (v := 31) hx hb hown (hts _ mX3_digest_1) dX3_digest_50 ?_
          refine lv_lmul hx hb dX3_digest_53 ?_
          refine lv_aload_n hx hb dX3_digest_54 rfl (lv_at hl 0 rfl) ?_
          refine lv_iload_n hx hb dX3_digest_55 rfl (lv_at hl 2 rfl) ?_
          refine lv_iload hx hb dX3_digest_56 (lv_at hl 3 rfl) ?_
          refine sc_i (sr_V (i := 0) (As := [.int (nI k), .int (nI k2)]) (rest := [.long (v * 31)]) ⟨hx, hb, hml, hown, hts⟩ (zX3_ofPond l D a cs _ k (by omega) k2 (by omega) _) (cwV 2 hts gX3_digest_X3_ofPond rfl rfl rfl (by decide +kernel) ⟨Nat.le_of_ble_eq_true rfl, Nat.le_of_ble_eq_true rfl⟩) hK hN hw (by omega) sE_o kcX3 rfl hl.1 (Nat.le_of_ble_eq_true rfl) dX3_digest_58 ⟨Nat.le_of_ble_eq_true rfl, Nat.le_of_ble_eq_true rfl⟩) hw hA (fun H locs hw => ?_)
          refine lv_i2l hx hb dX3_digest_61 rfl ?_
          refine lv_ladd hx hb dX3_digest_62 ?_
          refine lw_topl (fun x9 ex9 => ?_)
          refine lv_lstore_n (lv' := [(1, .long x9), (0, .ref (a 0)), (3, .int (nI k)), (4, .int (nI k2))]) hx hb dX3_digest_63 rfl hl (by decide) rfl (fun ls hl => ?_)
          refine lv_iinc (v := nI (k2 + 1)) (lv' := [(4, .int (nI (k2 + 1))), (1, .long x9), (0, .ref (a 0)), (3, .int (nI k))]) hx hb dX3_digest_64 hl (k := 3) rfl (nI_1 k2) (by decide) rfl (fun ls hl => ?_)
          refine lv_goto (tgt := 42) hx hb dX3_digest_67 (by decide) ?_
          have hstep : τ = τ := by
            subst ex9; rfl
          have hval0 : f_dgR (τ (5 + 8 * 0 + k)) (n2 + 1) k2 v = f_dgR (τ (5 + 8 * 0 + k)) n2 (k2 + 1) x9 := by
            subst ex9; rfl
          exact ih2 (k2 + 1) τ x9 H locs ls (by omega) hw (lv_sub hl [2, 1, 3, 0] rfl) (fun H locs ls hw hl => kont2 H locs ls (by rw [hstep]; exact hw) (by rw [hval0]; exact hl))
      refine loop3 _ 11 0 τ v _ _ _ (by decide) hw (lv_sub hl [1, 2, 3, 0] rfl) (fun H locs ls hw hl => ?_)
      obtain ⟨τ10, eτ10⟩ : ∃ zz : sS, τ = zz := ⟨_, rfl⟩
      rw [eτ10] at hw
      refine lv_iinc (v := nI (k + 1)) (lv' := [(3, .int (nI (k + 1))), (0, .ref (a 0)), (1, .long (f_dgR (τ (5 + 8 * 0 + k)) 11 0 v))]) hx hb dX3_digest_70 hl (k := 2) rfl (nI_1 k) (by decide) rfl (fun ls hl => ?_)
      refine lv_goto (tgt := 33) hx hb dX3_digest_73 (by decide) ?_
      have hstep : τ = τ10 := by
        subst eτ10; rfl
      have hval0 : f_dgP τ (n + 1) k v = f_dgP τ10 n (k + 1) (f_dgR (τ (5 + 8 * 0 + k)) 11 0 v) := by
        subst eτ10; rfl
      exact ih (k + 1) τ10 (f_dgR (τ (5 + 8 * 0 + k)) 11 0 v) H locs ls (by omega) hw (lv_sub hl [1, 2, 0] rfl) (fun H locs ls hw hl => kont H locs ls (by rw [hstep]; exact hw) (by rw [hval0]; exact hl))
  refine loop2 _ 8 0 τ4 (f_dgM σ fc 18 0 7804) _ _ _ (by decide) hw (lv_sub hl [1, 2, 0] rfl) (fun H locs ls hw hl => ?_)
  obtain ⟨τ11, eτ11⟩ : ∃ zz : sS, τ4 = zz := ⟨_, rfl⟩
  rw [eτ11] at hw
  refine lv_iconst (v := 0) hx hb dX3_digest_76 (by decide) ?_
  refine lv_istore_n (lv' := [(3, .int 0), (0, .ref (a 0)), (1, .long (f_dgP τ4 8 0 (f_dgM σ fc 18 0 7804)))]) hx hb dX3_digest_77 rfl hl (by decide) rfl (fun ls hl => ?_)
  have loop4 : ∀ (Q : State → Prop) (n : Nat) (k : Nat) (τ : sS) (v : Int64) (H : Heap) (locs : List Loc) (ls : Array Slot), k + n = fc ∧ τ 0 3 = nI fc → sH D a cs (sA a s.heap.size) s.heap τ H locs → lv_has ls 5 [(0, .ref (a 0)), (1, .long v), (3, .int (nI k))] → (∀ (H : Heap) (locs : List Loc) (ls : Array Slot), sH D a cs (sA a s.heap.size) s.heap (τ) H locs → lv_has ls 5 [(0, .ref (a 0)), (1, .long (f_dgF τ n k v))] → W p l e { frames := 6, cells := 0, slots := 0, locals := 151 } s m #[Value.ref (a 0)] below meth c H locs 0 0 Q (F0 m 99 ls [])) → W p l e { frames := 6, cells := 0, slots := 0, locals := 151 } s m #[Value.ref (a 0)] below meth c H locs 0 0 Q (F0 m 78 ls []) := by
    intro Q n
    induction n with
    | zero =>
      intro k τ v H locs ls hkn hw hl kont
      refine lv_iload_n hx hb dX3_digest_78 rfl (lv_at hl 2 rfl) ?_
      refine lv_aload_n hx hb dX3_digest_79 rfl (lv_at hl 0 rfl) ?_
      refine sg_o hx hb hts iX3_digest_X3 hown hK hw 3 (by decide) (hts _ mX3_digest_2) dX3_digest_80 ?_
      refine lv_icmp_ge (tgt := 99) hx hb dX3_digest_83 (by decide) (fun c12 => ?_) (fun c12 => absurd (by rw [hkn.2, show k = fc by omega]; exact Int32.le_refl _) c12)
      exact kont H locs ls hw (lv_sub hl [0, 1] rfl)
    | succ n ih =>
      intro k τ v H locs ls hkn hw hl kont
      refine lv_iload_n hx hb dX3_digest_78 rfl (lv_at hl 2 rfl) ?_
      refine lv_aload_n hx hb dX3_digest_79 rfl (lv_at hl 0 rfl) ?_
      refine sg_o hx hb hts iX3_digest_X3 hown hK hw 3 (by decide) (hts _ mX3_digest_2) dX3_digest_80 ?_
      refine lv_icmp_ge (tgt := 99) hx hb dX3_digest_83 (by decide) (fun c13 => absurd c13 (by rw [hkn.2]; exact nI_ge (by omega) (by omega))) (fun c13 => ?_)
      refine lv_aload_n hx hb dX3_digest_86 rfl (lv_at hl 0 rfl) ?_
      refine lv_iload_n hx hb dX3_digest_87 rfl (lv_at hl 2 rfl) ?_
      refine lv_lload_n hx hb dX3_digest_88 rfl (lv_at hl 1 rfl) ?_
      refine sc_l (sr_V (i := 0) (As := [.int (nI k), .long v]) (rest := []) ⟨hx, hb, hml, hown, hts⟩ (zX3_digestOfFamily l D a cs _ fc hfc hkn.2 k (by omega) v _) (cwV 2 hts gX3_digest_X3_digestOfFamily rfl rfl rfl (by decide +kernel) ⟨Nat.le_of_ble_eq_true rfl, Nat.le_of_ble_eq_true rfl⟩) hK hN hw (by omega) sE_o kcX3 rfl hl.1 (Nat.le_of_ble_eq_true rfl) dX3_digest_89 ⟨Nat.le_of_ble_eq_true rfl, Nat.le_of_ble_eq_true rfl⟩) hw hA (fun H locs hw => ?_)
      refine lw_topl (fun x14 ex14 => ?_)
      refine lv_lstore_n (lv' := [(1, .long x14), (0, .ref (a 0)), (3, .int (nI k))]) hx hb dX3_digest_92 rfl hl (by decide) rfl (fun ls hl => ?_)
      refine lv_iinc (v := nI (k + 1)) (lv' := [(3, .int (nI (k + 1))), (1, .long x14), (0, .ref (a 0))]) hx hb dX3_digest_93 hl (k := 2) rfl (nI_1 k) (by decide) rfl (fun ls hl => ?_)
      refine lv_goto (tgt := 78) hx hb dX3_digest_96 (by decide) ?_
      have hstep : τ = τ := by
        subst ex14; rfl
      have hval0 : f_dgF τ (n + 1) k v = f_dgF τ n (k + 1) x14 := by
        subst ex14; rfl
      exact ih (k + 1) τ x14 H locs ls ⟨by omega, hkn.2⟩ hw (lv_sub hl [2, 1, 0] rfl) (fun H locs ls hw hl => kont H locs ls (by rw [hstep]; exact hw) (by rw [hval0]; exact hl))
  refine loop4 _ fc 0 τ11 (f_dgP τ4 8 0 (f_dgM σ fc 18 0 7804)) _ _ _ ⟨Nat.zero_add fc, (by subst eτ11 eτ4; exact hc)⟩ hw (lv_sub hl [1, 2, 0] rfl) (fun H locs ls hw hl => ?_)
  obtain ⟨τ15, eτ15⟩ : ∃ zz : sS, τ11 = zz := ⟨_, rfl⟩
  rw [eτ15] at hw
  refine lv_iconst (v := 5) hx hb dX3_digest_99 (by decide) ?_
  refine lv_istore_n (lv' := [(3, .int 5), (0, .ref (a 0)), (1, .long (f_dgF τ11 fc 0 (f_dgP τ4 8 0 (f_dgM σ fc 18 0 7804))))]) hx hb dX3_digest_100 rfl hl (by decide) rfl (fun ls hl => ?_)
  have loop5 : ∀ (Q : State → Prop) (n : Nat) (k : Nat) (τ : sS) (v : Int64) (H : Heap) (locs : List Loc) (ls : Array Slot), k + n = 3 ∧ sZ τ → sH D a cs (sA a s.heap.size) s.heap τ H locs → lv_has ls 5 [(0, .ref (a 0)), (1, .long v), (3, .int (nI (5 + k)))] → (∀ (H : Heap) (locs : List Loc) (ls : Array Slot), sH D a cs (sA a s.heap.size) s.heap (f_dgS n k τ) H locs → lv_has ls 5 [(0, .ref (a 0)), (1, .long (f_dgC n k τ v))] → W p l e { frames := 6, cells := 0, slots := 0, locals := 151 } s m #[Value.ref (a 0)] below meth c H locs 0 0 Q (F0 m 129 ls [])) → W p l e { frames := 6, cells := 0, slots := 0, locals := 151 } s m #[Value.ref (a 0)] below meth c H locs 0 0 Q (F0 m 101 ls []) := by
    intro Q n
    induction n with
    | zero =>
      intro k τ v H locs ls hkn hw hl kont
      refine lv_iload_n hx hb dX3_digest_101 rfl (lv_at hl 2 rfl) ?_
      refine lv_bipush (v := 8) hx hb dX3_digest_102 (by decide) ?_
      refine lv_icmp_ge (tgt := 129) hx hb dX3_digest_104 (by decide) (fun c16 => ?_) (fun c16 => absurd (by rw [show k = 3 by omega]; decide) c16)
      exact kont H locs ls hw (lv_sub hl [0, 1] rfl)
    | succ n ih =>
      intro k τ v H locs ls hkn hw hl kont
      refine lv_iload_n hx hb dX3_digest_101 rfl (lv_at hl 2 rfl) ?_
      refine lv_bipush (v := 8) hx hb dX3_digest_102 (by decide) ?_
      refine lv_icmp_ge (tgt := 129) hx hb dX3_digest_104 (by decide) (fun c17 => absurd c17 (nI_ge (a := 5 + k) (b := 8) (by omega) (by decide))) (fun c17 => ?_)
      refine lv_lload_n hx hb dX3_digest_107 rfl (lv_at hl 1 rfl) ?_
      refine lv_ldc2 (v := 31) hx hb hown (hts _ mX3_digest_1) dX3_digest_108 ?_
      refine lv_lmul hx hb dX3_digest_111 ?_
      refine lv_aload_n hx hb dX3_digest_112 rfl (lv_at hl 0 rfl) ?_
      refine lv_iload_n hx hb dX3_digest_113 rfl (lv_at hl 2 rfl) ?_
      refine lv_bipush (v := 7) hx hb dX3_digest_114 (by decide) ?_
      refine lv_iconst (v := 3) hx hb dX3_digest_116 (by decide) ?_
      refine sc_i (sr_V (i := 0) (As := [.int (nI (5 + k)), .int 7, .int 3]) (rest := [.long (v * 31)]) ⟨hx, hb, hml, hown, hts⟩ (zX3_crustIn l D a cs _ hkn.2 k (by omega) 7 3 (by decide) (by decide) (by decide) (by decide) _) (cwV 3 hts gX3_digest_X3_crustIn rfl rfl rfl (by decide +kernel) ⟨Nat.le_of_ble_eq_true rfl, Nat.le_of_ble_eq_true rfl⟩) hK hN hw (by omega) sE_o kcX3 rfl hl.1 (Nat.le_of_ble_eq_true rfl) dX3_digest_117 ⟨Nat.le_of_ble_eq_true rfl, Nat.le_of_ble_eq_true rfl⟩) hw hA (fun H locs hw => ?_)
      obtain ⟨τ18, eτ18⟩ : ∃ zz : sS, f_X3_crustIn τ k 7 3 = zz := ⟨_, rfl⟩
      rw [eτ18] at hw
      refine lv_i2l hx hb dX3_digest_120 rfl ?_
      refine lv_ladd hx hb dX3_digest_121 ?_
      refine lw_topl (fun x19 ex19 => ?_)
      refine lv_lstore_n (lv' := [(1, .long x19), (0, .ref (a 0)), (3, .int (nI (5 + k)))]) hx hb dX3_digest_122 rfl hl (by decide) rfl (fun ls hl => ?_)
      refine lv_iinc (v := nI ((5 + k) + 1)) (lv' := [(3, .int (nI ((5 + k) + 1))), (1, .long x19), (0, .ref (a 0))]) hx hb dX3_digest_123 hl (k := 2) rfl (nI_1 (5 + k)) (by decide) rfl (fun ls hl => ?_)
      refine lv_goto (tgt := 101) hx hb dX3_digest_126 (by decide) ?_
      have hstep : f_dgS (n + 1) k τ = f_dgS n (k + 1) τ18 := by
        subst ex19 eτ18; rfl
      have hval0 : f_dgC (n + 1) k τ v = f_dgC n (k + 1) τ18 x19 := by
        subst ex19 eτ18; rfl
      exact ih (k + 1) τ18 x19 H locs ls ⟨by omega, by subst ex19 eτ18; exact sZ_of hkn.2 (fun i hi => k_crustIn hi)⟩ hw (lv_sub hl [2, 1, 0] rfl) (fun H locs ls hw hl => kont H locs ls (by rw [hstep]; exact hw) (by rw [hval0]; exact hl))
  refine loop5 _ 3 0 τ15 (f_dgF τ11 fc 0 (f_dgP τ4 8 0 (f_dgM σ fc 18 0 7804))) _ _ _ ⟨by decide, (by subst eτ15 eτ11 eτ4; exact hz)⟩ hw (lv_sub hl [1, 2, 0] rfl) (fun H locs ls hw hl => ?_)
  obtain ⟨τ20, eτ20⟩ : ∃ zz : sS, f_dgS 3 0 τ15 = zz := ⟨_, rfl⟩
  rw [eτ20] at hw
  refine lv_lload_n hx hb dX3_digest_129 rfl (lv_at hl 1 rfl) ?_
  refine lv_ldc2 (v := 31) hx hb hown (hts _ mX3_digest_1) dX3_digest_130 ?_
  refine lv_lmul hx hb dX3_digest_133 ?_
  refine lv_aload_n hx hb dX3_digest_134 rfl (lv_at hl 0 rfl) ?_
  refine lv_iconst (v := 3) hx hb dX3_digest_135 (by decide) ?_
  refine lv_bipush (v := 6) hx hb dX3_digest_136 (by decide) ?_
  refine lv_iconst (v := 2) hx hb dX3_digest_138 (by decide) ?_
  refine sc_i (sr_V (i := 0) (As := [.int 3, .int 6, .int 2]) (rest := [.long ((f_dgC 3 0 τ15 (f_dgF τ11 fc 0 (f_dgP τ4 8 0 (f_dgM σ fc 18 0 7804)))) * 31)]) ⟨hx, hb, hml, hown, hts⟩ (zX3_bestGates l D a cs _ (by subst eτ20 eτ15 eτ11 eτ4; exact sZ_of hz (fun i hi => k_dgS hi _ _ _)) 3 (by decide) 6 2 (by decide) (by decide) (by decide) (by decide) _) (cwV 3 hts gX3_digest_X3_bestGates rfl rfl rfl (by decide +kernel) ⟨Nat.le_of_ble_eq_true rfl, Nat.le_of_ble_eq_true rfl⟩) hK hN hw (by omega) sE_o kcX3 rfl hl.1 (Nat.le_of_ble_eq_true rfl) dX3_digest_139 ⟨Nat.le_of_ble_eq_true rfl, Nat.le_of_ble_eq_true rfl⟩) hw hA (fun H locs hw => ?_)
  obtain ⟨τ21, eτ21⟩ : ∃ zz : sS, f_X3_bestS 3 6 2 256 0 τ20 = zz := ⟨_, rfl⟩
  rw [eτ21] at hw
  refine lv_i2l hx hb dX3_digest_142 rfl ?_
  refine lv_ladd hx hb dX3_digest_143 ?_
  refine lw_topl (fun x22 ex22 => ?_)
  refine lv_lstore_n (lv' := [(1, .long x22), (0, .ref (a 0))]) hx hb dX3_digest_144 rfl hl (by decide) rfl (fun ls hl => ?_)
  refine lv_lload_n hx hb dX3_digest_145 rfl (lv_at hl 0 rfl) ?_
  refine lv_ldc2 (v := 31) hx hb hown (hts _ mX3_digest_1) dX3_digest_146 ?_
  refine lv_lmul hx hb dX3_digest_149 ?_
  refine lv_aload_n hx hb dX3_digest_150 rfl (lv_at hl 1 rfl) ?_
  refine lv_bipush (v := 9) hx hb dX3_digest_151 (by decide) ?_
  refine lv_iconst (v := 1) hx hb dX3_digest_153 (by decide) ?_
  refine sc_i (sr_V (i := 0) (As := [.int 9, .int 1]) (rest := [.long (x22 * 31)]) ⟨hx, hb, hml, hown, hts⟩ (zX3_tideOn l D a cs _ 9 1 (by decide) (by decide) _) (cwV 2 hts gX3_digest_X3_tideOn rfl rfl rfl (by decide +kernel) ⟨Nat.le_of_ble_eq_true rfl, Nat.le_of_ble_eq_true rfl⟩) hK hN hw (by omega) sE_o kcX3 rfl hl.1 (Nat.le_of_ble_eq_true rfl) dX3_digest_154 ⟨Nat.le_of_ble_eq_true rfl, Nat.le_of_ble_eq_true rfl⟩) hw hA (fun H locs hw => ?_)
  refine lv_i2l hx hb dX3_digest_157 rfl ?_
  refine lv_ladd hx hb dX3_digest_158 ?_
  refine lw_topl (fun x23 ex23 => ?_)
  refine lv_lstore_n (lv' := [(1, .long x23), (0, .ref (a 0))]) hx hb dX3_digest_159 rfl hl (by decide) rfl (fun ls hl => ?_)
  refine lv_lload_n hx hb dX3_digest_160 rfl (lv_at hl 0 rfl) ?_
  refine lv_ldc2 (v := 31) hx hb hown (hts _ mX3_digest_1) dX3_digest_161 ?_
  refine lv_lmul hx hb dX3_digest_164 ?_
  refine lv_aload_n hx hb dX3_digest_165 rfl (lv_at hl 1 rfl) ?_
  refine lv_iconst (v := 3) hx hb dX3_digest_166 (by decide) ?_
  refine lv_iconst (v := 0) hx hb dX3_digest_167 (by decide) ?_
  refine sc_i (sr_V (i := 0) (As := [.int 3, .int 0]) (rest := [.long (x23 * 31)]) ⟨hx, hb, hml, hown, hts⟩ (zX3_tideOn l D a cs _ 3 0 (by decide) (by decide) _) (cwV 2 hts gX3_digest_X3_tideOn rfl rfl rfl (by decide +kernel) ⟨Nat.le_of_ble_eq_true rfl, Nat.le_of_ble_eq_true rfl⟩) hK hN hw (by omega) sE_o kcX3 rfl hl.1 (Nat.le_of_ble_eq_true rfl) dX3_digest_168 ⟨Nat.le_of_ble_eq_true rfl, Nat.le_of_ble_eq_true rfl⟩) hw hA (fun H locs hw => ?_)
  refine lv_i2l hx hb dX3_digest_171 rfl ?_
  refine lv_ladd hx hb dX3_digest_172 ?_
  exact se_l hx hb hr hlocks hw (by subst ex23 ex22 eτ21 eτ20 eτ15 eτ11 eτ4; exact rfl) (by subst ex23 ex22 eτ21 eτ20 eτ15 eτ11 eτ4; exact rfl) dX3_digest_173
