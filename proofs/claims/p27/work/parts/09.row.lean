theorem mX2_letBrineFlowOn_0 : (Cond.fieldLink RX2 11 "SaltRow$Row" "ponds" "[LSaltRow$Pond;") ∈ wsX2_letBrineFlowOn := by decide +kernel
theorem iX2_letBrineFlowOn_X2 : ∀ w ∈ wsX20, w ∈ wsX2_letBrineFlowOn := by decide +kernel
theorem mX2_letBrineFlowOn_2 : (Cond.fieldLink RX2 66 "SaltRow$Pond" "isOpen" "Z") ∈ wsX2_letBrineFlowOn := by decide +kernel
theorem iX2_letBrineFlowOn_X1 : ∀ w ∈ wsX10, w ∈ wsX2_letBrineFlowOn := by decide +kernel
theorem mX2_letBrineFlowOn_4 : (Cond.fieldLink RX2 69 "SaltRow$Pond" "area" "I") ∈ wsX2_letBrineFlowOn := by decide +kernel
theorem mX2_letBrineFlowOn_5 : (Cond.methodLink RX2 76 Lib.Math.min.name) ∈ wsX2_letBrineFlowOn := by decide +kernel
theorem mX2_letBrineFlowOn_6 : (Cond.static Lib.Math.min.name) ∈ wsX2_letBrineFlowOn := by decide +kernel
theorem mX2_letBrineFlowOn_7 : (Cond.initialized "java/lang/Math") ∈ wsX2_letBrineFlowOn := by decide +kernel
theorem mX2_letBrineFlowOn_8 : (Cond.code Lib.Math.min.name Lib.Math.min.code 2 (some .int)) ∈ wsX2_letBrineFlowOn := by decide +kernel
theorem mX2_letBrineFlowOn_9 : (Cond.constantLong RX2 82 (2)) ∈ wsX2_letBrineFlowOn := by decide +kernel
theorem mX2_letBrineFlowOn_10 : (Cond.initialized RX3) ∈ wsX2_letBrineFlowOn := by decide +kernel
theorem mX2_letBrineFlowOn_11 : (Cond.static yX3_portion) ∈ wsX2_letBrineFlowOn := by decide +kernel
set_option maxHeartbeats 4000000 in
set_option maxRecDepth 100000 in
theorem zX2_letBrineFlowOn (l : Launch) (D : va_G) (a : Nat → Nat) (cs : Nat → ClassId) (σ : sS) (r : Nat) (hr2 : r < 2)  : sMv l yX2_letBrineFlowOn wsX2_letBrineFlowOn ({ frames := 2, cells := 0, slots := 0, locals := 50 }) D a cs [.ref (a (1 + r))] σ (f_X2_letBrineFlowOn σ r) := by
  intro sz
  refine Met.ofW (cc := cX2_letBrineFlowOn) (maxL := 5) (ret := none) (by decide) rfl ?_
  intro p e s m args below meth c s₁ B hml hv
  obtain ⟨rfl, hsz, hv2⟩ := hv
  have hv3 : sB D a cs σ sz s := ⟨hsz, hv2⟩
  subst hsz
  have hw := sH_start hv3
  obtain ⟨-, -, hK, -, hN⟩ := hv3
  have hx := B.exec
  have hb := B.bytes
  have hr := B.returns
  have hts := atoms_spec (ws := wsX2_letBrineFlowOn) B.pre
  have hown : s.vm.findClass RX2 = some m.cls := findClass_of_methodNamed B.named
  have hlocks := B.notSynchronized
  have hA : ∀ q : Nat, s.heap.size ≤ q → sA a s.heap.size q := sA_new
  have hl := lv_entry ([.ref (a (1 + r))]) (n := 5) (Nat.le_of_ble_eq_true rfl)
  rw [lg_entry_eq]
  generalize (lg_sl ([.ref (a (1 + r))]) ++ List.replicate (5 - (lg_sl ([.ref (a (1 + r))])).length) Slot.unset).toArray = ls at hl ⊢
  have hl : lv_has ls 5 [(0, .ref (a (1 + r)))] := hl
  refine lv_bipush (v := 7) hx hb dX2_letBrineFlowOn_0 (by decide) ?_
  refine lv_istore_n (lv' := [(1, .int 7), (0, .ref (a (1 + r)))]) hx hb dX2_letBrineFlowOn_2 rfl hl (by decide) rfl (fun ls hl => ?_)
  have loop : ∀ (Q : State → Prop) (n : Nat) (τ : sS)  (H : Heap) (locs : List Loc) (ls : Array Slot), n ≤ 7 → sH D a cs (sA a s.heap.size) s.heap τ H locs → lv_has ls 5 [(0, .ref (a (1 + r))), (1, .int (nI n))] → (∀ (H : Heap) (locs : List Loc) (ls : Array Slot), sH D a cs (sA a s.heap.size) s.heap (f_X2_flow r n τ) H locs → lv_has ls 5 [(0, .ref (a (1 + r)))] → W p l e { frames := 2, cells := 0, slots := 0, locals := 50 } s m #[Value.ref (a (1 + r))] below meth c H locs 0 0 Q (F0 m 78 ls [])) → W p l e { frames := 2, cells := 0, slots := 0, locals := 50 } s m #[Value.ref (a (1 + r))] below meth c H locs 0 0 Q (F0 m 3 ls []) := by
    intro Q n
    induction n with
    | zero =>
      intro τ  H locs ls hkn hw hl kont
      refine lv_iload_n hx hb dX2_letBrineFlowOn_3 rfl (lv_at hl 1 rfl) ?_
      refine lv_if_le (tgt := 78) hx hb dX2_letBrineFlowOn_4 (by decide) (fun c1 => ?_) (fun c1 => absurd (by decide) c1)
      exact kont H locs ls hw (lv_sub hl [0] rfl)
    | succ n ih =>
      intro τ  H locs ls hkn hw hl kont
      refine lv_iload_n hx hb dX2_letBrineFlowOn_3 rfl (lv_at hl 1 rfl) ?_
      refine lv_if_le (tgt := 78) hx hb dX2_letBrineFlowOn_4 (by decide) (fun c2 => absurd c2 (nI_nle (by omega) (by omega))) (fun c2 => ?_)
      refine lv_aload_n hx hb dX2_letBrineFlowOn_7 rfl (lv_at hl 0 rfl) ?_
      refine sg_rq (r := r) hx hb hts iX2_letBrineFlowOn_X2 hown hK hw hr2 (hts _ mX2_letBrineFlowOn_0) dX2_letBrineFlowOn_8 ?_
      refine lv_iload_n hx hb dX2_letBrineFlowOn_11 rfl (lv_at hl 1 rfl) ?_
      refine lv_iconst (v := 1) hx hb dX2_letBrineFlowOn_12 (by decide) ?_
      refine lv_isub hx hb dX2_letBrineFlowOn_13 ?_
      refine sg_q (r := r) (k := n) hx hb hK hw hr2 (by omega) (nI_pred n) dX2_letBrineFlowOn_14 ?_
      refine lv_astore_n (lv' := [(2, .ref (a (5 + 8 * r + n))), (0, .ref (a (1 + r))), (1, .int (nI (n + 1)))]) hx hb dX2_letBrineFlowOn_15 rfl hl (by decide) rfl (fun ls hl => ?_)
      refine lv_aload_n hx hb dX2_letBrineFlowOn_16 rfl (lv_at hl 1 rfl) ?_
      refine sg_rq (r := r) hx hb hts iX2_letBrineFlowOn_X2 hown hK hw hr2 (hts _ mX2_letBrineFlowOn_0) dX2_letBrineFlowOn_17 ?_
      refine lv_iload_n hx hb dX2_letBrineFlowOn_20 rfl (lv_at hl 2 rfl) ?_
      refine sg_q (r := r) (k := (n + 1)) hx hb hK hw hr2 (by omega) rfl dX2_letBrineFlowOn_21 ?_
      refine lv_astore_n (lv' := [(3, .ref (a (5 + 8 * r + (n + 1)))), (2, .ref (a (5 + 8 * r + n))), (0, .ref (a (1 + r))), (1, .int (nI (n + 1)))]) hx hb dX2_letBrineFlowOn_22 rfl hl (by decide) rfl (fun ls hl => ?_)
      refine lv_aload_n hx hb dX2_letBrineFlowOn_23 rfl (lv_at hl 1 rfl) ?_
      have hw := sH_foc (i := 5 + 8 * r + n) hw
      refine sc_i (sr_V (i := 5 + 8 * r + n) (As := []) (rest := []) ⟨hx, hb, hml, hown, hts⟩ (zX1_level l D a cs _ (5 + 8 * r + n) (by omega) _ _) (cwV 0 hts gX2_letBrineFlowOn_X1_level rfl rfl rfl (by decide +kernel) ⟨Nat.le_of_ble_eq_true rfl, Nat.le_of_ble_eq_true rfl⟩) hK hN hw (by omega) (sE_p (by omega)) kcX1 rfl hl.1 (Nat.le_of_ble_eq_true rfl) dX2_letBrineFlowOn_24 ⟨Nat.le_of_ble_eq_true rfl, Nat.le_of_ble_eq_true rfl⟩) hw hA (fun H locs hw => ?_)
      have hw := sH_unf hw
      refine lv_aload_n hx hb dX2_letBrineFlowOn_27 rfl (lv_at hl 0 rfl) ?_
      have hw := sH_foc (i := 5 + 8 * r + (n + 1)) hw
      refine sc_i (sr_V (i := 5 + 8 * r + (n + 1)) (As := []) (rest := [.int (f_X1_level (τ (5 + 8 * r + n)))]) ⟨hx, hb, hml, hown, hts⟩ (zX1_level l D a cs _ (5 + 8 * r + (n + 1)) (by omega) _ _) (cwV 0 hts gX2_letBrineFlowOn_X1_level rfl rfl rfl (by decide +kernel) ⟨Nat.le_of_ble_eq_true rfl, Nat.le_of_ble_eq_true rfl⟩) hK hN hw (by omega) (sE_p (by omega)) kcX1 rfl hl.1 (Nat.le_of_ble_eq_true rfl) dX2_letBrineFlowOn_28 ⟨Nat.le_of_ble_eq_true rfl, Nat.le_of_ble_eq_true rfl⟩) hw hA (fun H locs hw => ?_)
      have hw := sH_unf hw
      refine lv_isub hx hb dX2_letBrineFlowOn_31 ?_
      refine lw_topi (fun x3 ex3 => ?_)
      refine lv_istore (lv' := [(4, .int x3), (3, .ref (a (5 + 8 * r + (n + 1)))), (2, .ref (a (5 + 8 * r + n))), (0, .ref (a (1 + r))), (1, .int (nI (n + 1)))]) hx hb dX2_letBrineFlowOn_32 hl (by decide) rfl (fun ls hl => ?_)
      refine lv_aload_n hx hb dX2_letBrineFlowOn_34 rfl (lv_at hl 1 rfl) ?_
      refine sg_p hx hb hts iX2_letBrineFlowOn_X1 hown hK hw (by omega) 9 (by decide) (hts _ mX2_letBrineFlowOn_2) dX2_letBrineFlowOn_35 ?_
      refine lv_if_eq (tgt := 72) hx hb dX2_letBrineFlowOn_38 (by decide) (fun c4 => ?_) (fun c4 => ?_)
      · refine lv_iinc (v := nI n) (lv' := [(1, .int (nI n)), (4, .int x3), (3, .ref (a (5 + 8 * r + (n + 1)))), (2, .ref (a (5 + 8 * r + n))), (0, .ref (a (1 + r)))]) hx hb dX2_letBrineFlowOn_72 hl (k := 4) rfl (nI_dec n) (by decide) rfl (fun ls hl => ?_)
        refine lv_goto (tgt := 3) hx hb dX2_letBrineFlowOn_75 (by decide) ?_
        have hstep : f_X2_flow r (n + 1) τ = f_X2_flow r n τ := by
          subst ex3; show f_X2_flow r n (f_X2_flowStep τ r n) = _; unfold f_X2_flowStep; rw [if_pos c4] <;> rfl
        exact ih  τ  H locs ls (by omega) hw (lv_sub hl [4, 0] rfl) (fun H locs ls hw hl => kont H locs ls (by rw [hstep]; exact hw) (by exact hl))
      · refine lv_iload hx hb dX2_letBrineFlowOn_41 (lv_at hl 0 rfl) ?_
        refine lv_if_le (tgt := 72) hx hb dX2_letBrineFlowOn_43 (by decide) (fun c5 => ?_) (fun c5 => ?_)
        · refine lv_iinc (v := nI n) (lv' := [(1, .int (nI n)), (4, .int x3), (3, .ref (a (5 + 8 * r + (n + 1)))), (2, .ref (a (5 + 8 * r + n))), (0, .ref (a (1 + r)))]) hx hb dX2_letBrineFlowOn_72 hl (k := 4) rfl (nI_dec n) (by decide) rfl (fun ls hl => ?_)
          refine lv_goto (tgt := 3) hx hb dX2_letBrineFlowOn_75 (by decide) ?_
          have hstep : f_X2_flow r (n + 1) τ = f_X2_flow r n τ := by
            subst ex3; show f_X2_flow r n (f_X2_flowStep τ r n) = _; unfold f_X2_flowStep; rw [if_neg c4, if_pos c5] <;> rfl
          exact ih  τ  H locs ls (by omega) hw (lv_sub hl [4, 0] rfl) (fun H locs ls hw hl => kont H locs ls (by rw [hstep]; exact hw) (by exact hl))
        · refine lv_aload_n hx hb dX2_letBrineFlowOn_46 rfl (lv_at hl 2 rfl) ?_
          refine lv_aload_n hx hb dX2_letBrineFlowOn_47 rfl (lv_at hl 1 rfl) ?_
          refine lv_iload hx hb dX2_letBrineFlowOn_48 (lv_at hl 0 rfl) ?_
          refine lv_i2l hx hb dX2_letBrineFlowOn_50 rfl ?_
          refine lv_aload_n hx hb dX2_letBrineFlowOn_51 rfl (lv_at hl 2 rfl) ?_
          refine sg_p hx hb hts iX2_letBrineFlowOn_X1 hown hK hw (by omega) 0 (by decide) (hts _ mX2_letBrineFlowOn_4) dX2_letBrineFlowOn_52 ?_
          refine lv_aload_n hx hb dX2_letBrineFlowOn_55 rfl (lv_at hl 1 rfl) ?_
          refine sg_p hx hb hts iX2_letBrineFlowOn_X1 hown hK hw (by omega) 0 (by decide) (hts _ mX2_letBrineFlowOn_4) dX2_letBrineFlowOn_56 ?_
          refine va_mmin hx hb (hml.trans hl.1.symm) hown (hts _ mX2_letBrineFlowOn_5) (hts _ mX2_letBrineFlowOn_6) (hts _ mX2_letBrineFlowOn_7) (hts _ mX2_letBrineFlowOn_8) (Nat.le_of_ble_eq_true rfl) (Nat.le_of_ble_eq_true rfl) (Nat.le_of_ble_eq_true rfl) (Nat.le_of_ble_eq_true rfl) dX2_letBrineFlowOn_59 ?_
          refine lw_topi (fun x6 ex6 => ?_)
          refine lv_i2l hx hb dX2_letBrineFlowOn_62 rfl ?_
          refine lv_ldc2 (v := 2) hx hb hown (hts _ mX2_letBrineFlowOn_9) dX2_letBrineFlowOn_63 ?_
          refine sc_i (sr_N (As := [.long x3.toInt64, .long x6.toInt64, .long 2]) (rest := [.ref (a (5 + 8 * r + (n + 1))), .ref (a (5 + 8 * r + n))]) ⟨hx, hb, hml, hown, hts⟩ (zX3_portion l D a cs _ x3.toInt64 x6.toInt64 2 _) (va_cnB 3 hts gX2_letBrineFlowOn_X3_portion_n84 rfl rfl rfl (sN_X2_X3_portion hN) (hts _ mX2_letBrineFlowOn_10) (by decide +kernel) ⟨Nat.le_of_ble_eq_true rfl, Nat.le_of_ble_eq_true rfl⟩) (hts _ mX2_letBrineFlowOn_11) hK hN hw rfl hl.1 (Nat.le_of_ble_eq_true rfl) dX2_letBrineFlowOn_66 ⟨Nat.le_of_ble_eq_true rfl, Nat.le_of_ble_eq_true rfl⟩) hw hA (fun H locs hw => ?_)
          refine sc_v (sr_V (i := 5 + 8 * r + n) (As := [.ref (a (5 + 8 * r + (n + 1))), .int (f_X3_portion x3.toInt64 x6.toInt64 2)]) (rest := []) ⟨hx, hb, hml, hown, hts⟩ (zX1_giveBrine l D a cs _ (5 + 8 * r + n) (5 + 8 * r + (n + 1)) (by omega) (by omega) (by omega) (f_X3_portion x3.toInt64 x6.toInt64 2) _) (cwV 2 hts gX2_letBrineFlowOn_X1_giveBrine rfl rfl rfl (by decide +kernel) ⟨Nat.le_of_ble_eq_true rfl, Nat.le_of_ble_eq_true rfl⟩) hK hN hw (by omega) (sE_p (by omega)) kcX1 rfl hl.1 (Nat.le_of_ble_eq_true rfl) dX2_letBrineFlowOn_69 ⟨Nat.le_of_ble_eq_true rfl, Nat.le_of_ble_eq_true rfl⟩) hw hA (fun H locs hw => ?_)
          obtain ⟨τ7, eτ7⟩ : ∃ zz : sS, f_X1_giveBrine τ (5 + 8 * r + n) (5 + 8 * r + (n + 1)) (f_X3_portion x3.toInt64 x6.toInt64 2) = zz := ⟨_, rfl⟩
          rw [eτ7] at hw
          refine lv_iinc (v := nI n) (lv' := [(1, .int (nI n)), (4, .int x3), (3, .ref (a (5 + 8 * r + (n + 1)))), (2, .ref (a (5 + 8 * r + n))), (0, .ref (a (1 + r)))]) hx hb dX2_letBrineFlowOn_72 hl (k := 4) rfl (nI_dec n) (by decide) rfl (fun ls hl => ?_)
          refine lv_goto (tgt := 3) hx hb dX2_letBrineFlowOn_75 (by decide) ?_
          have hstep : f_X2_flow r (n + 1) τ = f_X2_flow r n τ7 := by
            subst eτ7 ex6 ex3; show f_X2_flow r n (f_X2_flowStep τ r n) = _; unfold f_X2_flowStep; rw [if_neg c4, if_neg c5] <;> rfl
          exact ih  τ7  H locs ls (by omega) hw (lv_sub hl [4, 0] rfl) (fun H locs ls hw hl => kont H locs ls (by rw [hstep]; exact hw) (by exact hl))
  refine loop _ 7 σ  _ _ _ (by decide) hw (lv_sub hl [1, 0] rfl) (fun H locs ls hw hl => ?_)
  obtain ⟨τ8, eτ8⟩ : ∃ zz : sS, f_X2_flow r 7 σ = zz := ⟨_, rfl⟩
  rw [eτ8] at hw
  exact se_v hx hb hr hlocks hw (by subst eτ8; exact rfl) dX2_letBrineFlowOn_78
theorem mX2_letDayGoBy_0 : (Cond.fieldLink RX2 18 "SaltRow$Row" "day" "I") ∈ wsX2_letDayGoBy := by decide +kernel
theorem iX2_letDayGoBy_X2 : ∀ w ∈ wsX20, w ∈ wsX2_letDayGoBy := by decide +kernel
theorem mX2_letDayGoBy_2 : (Cond.fieldLink RX2 22 "SaltRow$Row" "sun" "I") ∈ wsX2_letDayGoBy := by decide +kernel
theorem mX2_letDayGoBy_3 : (Cond.fieldLink RX2 25 "SaltRow$Row" "wind" "I") ∈ wsX2_letDayGoBy := by decide +kernel
theorem mX2_letDayGoBy_4 : (Cond.fieldLink RX2 11 "SaltRow$Row" "ponds" "[LSaltRow$Pond;") ∈ wsX2_letDayGoBy := by decide +kernel
theorem mX2_letDayGoBy_5 : (Cond.fieldLink RX2 41 "SaltRow$Pond" "wasHarvested" "Z") ∈ wsX2_letDayGoBy := by decide +kernel
theorem iX2_letDayGoBy_X1 : ∀ w ∈ wsX10, w ∈ wsX2_letDayGoBy := by decide +kernel
set_option maxHeartbeats 4000000 in
set_option maxRecDepth 100000 in
theorem zX2_letDayGoBy (l : Launch) (D : va_G) (a : Nat → Nat) (cs : Nat → ClassId) (σ : sS) (r : Nat) (hr2 : r < 2) (x : Int32) (y : Int32) (z : Int32) : sMv l yX2_letDayGoBy wsX2_letDayGoBy ({ frames := 3, cells := 0, slots := 0, locals := 74 }) D a cs [.ref (a (1 + r)), .int x, .int y, .int z] σ (f_X2_letDayGoBy σ r x y z) := by
  intro sz
  refine Met.ofW (cc := cX2_letDayGoBy) (maxL := 6) (ret := none) (by decide) rfl ?_
  intro p e s m args below meth c s₁ B hml hv
  obtain ⟨rfl, hsz, hv2⟩ := hv
  have hv3 : sB D a cs σ sz s := ⟨hsz, hv2⟩
  subst hsz
  have hw := sH_start hv3
  obtain ⟨-, -, hK, -, hN⟩ := hv3
  have hx := B.exec
  have hb := B.bytes
  have hr := B.returns
  have hts := atoms_spec (ws := wsX2_letDayGoBy) B.pre
  have hown : s.vm.findClass RX2 = some m.cls := findClass_of_methodNamed B.named
  have hlocks := B.notSynchronized
  have hA : ∀ q : Nat, s.heap.size ≤ q → sA a s.heap.size q := sA_new
  have hl := lv_entry ([.ref (a (1 + r)), .int x, .int y, .int z]) (n := 6) (Nat.le_of_ble_eq_true rfl)
  rw [lg_entry_eq]
  generalize (lg_sl ([.ref (a (1 + r)), .int x, .int y, .int z]) ++ List.replicate (6 - (lg_sl ([.ref (a (1 + r)), .int x, .int y, .int z])).length) Slot.unset).toArray = ls at hl ⊢
  have hl : lv_has ls 6 [(0, .ref (a (1 + r))), (1, .int x), (2, .int y), (3, .int z)] := hl
  refine lv_aload_n hx hb dX2_letDayGoBy_0 rfl (lv_at hl 0 rfl) ?_
  refine lv_dup hx hb dX2_letDayGoBy_1 rfl ?_
  refine sg_r (r := r) hx hb hts iX2_letDayGoBy_X2 hown hK hw hr2 1 (by decide) (hts _ mX2_letDayGoBy_0) dX2_letDayGoBy_2 ?_
  refine lv_iconst (v := 1) hx hb dX2_letDayGoBy_5 (by decide) ?_
  refine lv_iadd hx hb dX2_letDayGoBy_6 ?_
  refine sp_r (r := r) hx hb hts iX2_letDayGoBy_X2 hown hK hw hr2 1 (by decide) (hts _ mX2_letDayGoBy_0) dX2_letDayGoBy_7 (fun H locs hw => ?_)
  obtain ⟨τ1, eτ1⟩ : ∃ zz : sS, va_up σ (1 + r) (upd (σ (1 + r)) 1 ((σ (1 + r) 1) + 1)) = zz := ⟨_, rfl⟩
  rw [eτ1] at hw
  refine lv_aload_n hx hb dX2_letDayGoBy_10 rfl (lv_at hl 0 rfl) ?_
  refine lv_iload_n hx hb dX2_letDayGoBy_11 rfl (lv_at hl 1 rfl) ?_
  refine sp_r (r := r) hx hb hts iX2_letDayGoBy_X2 hown hK hw hr2 2 (by decide) (hts _ mX2_letDayGoBy_2) dX2_letDayGoBy_12 (fun H locs hw => ?_)
  obtain ⟨τ2, eτ2⟩ : ∃ zz : sS, va_up τ1 (1 + r) (upd (τ1 (1 + r)) 2 x) = zz := ⟨_, rfl⟩
  rw [eτ2] at hw
  refine lv_aload_n hx hb dX2_letDayGoBy_15 rfl (lv_at hl 0 rfl) ?_
  refine lv_iload_n hx hb dX2_letDayGoBy_16 rfl (lv_at hl 2 rfl) ?_
  refine sp_r (r := r) hx hb hts iX2_letDayGoBy_X2 hown hK hw hr2 3 (by decide) (hts _ mX2_letDayGoBy_3) dX2_letDayGoBy_17 (fun H locs hw => ?_)
  obtain ⟨τ3, eτ3⟩ : ∃ zz : sS, va_up τ2 (1 + r) (upd (τ2 (1 + r)) 3 y) = zz := ⟨_, rfl⟩
  rw [eτ3] at hw
  refine lv_aload_n hx hb dX2_letDayGoBy_20 rfl (lv_at hl 0 rfl) ?_
  refine sc_v (sr_V (i := 1 + r) (As := []) (rest := []) ⟨hx, hb, hml, hown, hts⟩ (zX2_letSeaIn l D a cs _ r hr2 _) (cwV 0 hts gX2_letDayGoBy_X2_letSeaIn rfl rfl rfl (by decide +kernel) ⟨Nat.le_of_ble_eq_true rfl, Nat.le_of_ble_eq_true rfl⟩) hK hN hw (by omega) (sE_r hr2) kcX2 rfl hl.1 (Nat.le_of_ble_eq_true rfl) dX2_letDayGoBy_21 ⟨Nat.le_of_ble_eq_true rfl, Nat.le_of_ble_eq_true rfl⟩) hw hA (fun H locs hw => ?_)
  obtain ⟨τ4, eτ4⟩ : ∃ zz : sS, f_X2_letSeaIn τ3 r = zz := ⟨_, rfl⟩
  rw [eτ4] at hw
  refine lv_aload_n hx hb dX2_letDayGoBy_24 rfl (lv_at hl 0 rfl) ?_
  refine sc_v (sr_V (i := 1 + r) (As := []) (rest := []) ⟨hx, hb, hml, hown, hts⟩ (zX2_letBrineFlowOn l D a cs _ r hr2 _) (cwV 0 hts gX2_letDayGoBy_X2_letBrineFlowOn rfl rfl rfl (by decide +kernel) ⟨Nat.le_of_ble_eq_true rfl, Nat.le_of_ble_eq_true rfl⟩) hK hN hw (by omega) (sE_r hr2) kcX2 rfl hl.1 (Nat.le_of_ble_eq_true rfl) dX2_letDayGoBy_25 ⟨Nat.le_of_ble_eq_true rfl, Nat.le_of_ble_eq_true rfl⟩) hw hA (fun H locs hw => ?_)
  obtain ⟨τ5, eτ5⟩ : ∃ zz : sS, f_X2_letBrineFlowOn τ4 r = zz := ⟨_, rfl⟩
  rw [eτ5] at hw
  refine lv_iconst (v := 0) hx hb dX2_letDayGoBy_28 (by decide) ?_
  refine lv_istore (lv' := [(4, .int 0), (0, .ref (a (1 + r))), (1, .int x), (2, .int y), (3, .int z)]) hx hb dX2_letDayGoBy_29 hl (by decide) rfl (fun ls hl => ?_)
  have loop : ∀ (Q : State → Prop) (n : Nat) (k : Nat) (τ : sS)  (H : Heap) (locs : List Loc) (ls : Array Slot), k + n = 8 → sH D a cs (sA a s.heap.size) s.heap τ H locs → lv_has ls 6 [(0, .ref (a (1 + r))), (3, .int z), (4, .int (nI k))] → (∀ (H : Heap) (locs : List Loc) (ls : Array Slot), sH D a cs (sA a s.heap.size) s.heap (f_X2_ponds r z n k τ) H locs → lv_has ls 6 [(0, .ref (a (1 + r)))] → W p l e { frames := 3, cells := 0, slots := 0, locals := 74 } s m #[Value.ref (a (1 + r)), Value.int x, Value.int y, Value.int z] below meth c H locs 0 0 Q (F0 m 89 ls [])) → W p l e { frames := 3, cells := 0, slots := 0, locals := 74 } s m #[Value.ref (a (1 + r)), Value.int x, Value.int y, Value.int z] below meth c H locs 0 0 Q (F0 m 31 ls []) := by
    intro Q n
    induction n with
    | zero =>
      intro k τ  H locs ls hkn hw hl kont
      refine lv_iload hx hb dX2_letDayGoBy_31 (lv_at hl 2 rfl) ?_
      refine lv_bipush (v := 8) hx hb dX2_letDayGoBy_33 (by decide) ?_
      refine lv_icmp_ge (tgt := 89) hx hb dX2_letDayGoBy_35 (by decide) (fun c6 => ?_) (fun c6 => absurd (by rw [show k = 8 by omega]; decide) c6)
      exact kont H locs ls hw (lv_sub hl [0] rfl)
    | succ n ih =>
      intro k τ  H locs ls hkn hw hl kont
      refine lv_iload hx hb dX2_letDayGoBy_31 (lv_at hl 2 rfl) ?_
      refine lv_bipush (v := 8) hx hb dX2_letDayGoBy_33 (by decide) ?_
      refine lv_icmp_ge (tgt := 89) hx hb dX2_letDayGoBy_35 (by decide) (fun c7 => absurd c7 (nI_ge (a := k) (b := 8) (by omega) (by decide))) (fun c7 => ?_)
      refine lv_aload_n hx hb dX2_letDayGoBy_38 rfl (lv_at hl 0 rfl) ?_
      refine sg_rq (r := r) hx hb hts iX2_letDayGoBy_X2 hown hK hw hr2 (hts _ mX2_letDayGoBy_4) dX2_letDayGoBy_39 ?_
      refine lv_iload hx hb dX2_letDayGoBy_42 (lv_at hl 2 rfl) ?_
      refine sg_q (r := r) (k := k) hx hb hK hw hr2 (by omega) rfl dX2_letDayGoBy_44 ?_
      refine lv_astore (lv' := [(5, .ref (a (5 + 8 * r + k))), (0, .ref (a (1 + r))), (3, .int z), (4, .int (nI k))]) hx hb dX2_letDayGoBy_45 hl (by decide) rfl (fun ls hl => ?_)
      refine lv_aload hx hb dX2_letDayGoBy_47 (lv_at hl 0 rfl) ?_
      refine lv_iconst (v := 0) hx hb dX2_letDayGoBy_49 (by decide) ?_
      refine sp_z hx hb hts iX2_letDayGoBy_X1 hown hK hw (by omega) 11 (Or.inl rfl) (by decide) (hts _ mX2_letDayGoBy_5) dX2_letDayGoBy_50 (fun H locs hw => ?_)
      obtain ⟨τ8, eτ8⟩ : ∃ zz : sS, va_up τ (5 + 8 * r + k) (upd (τ (5 + 8 * r + k)) 11 0) = zz := ⟨_, rfl⟩
      rw [eτ8] at hw
      refine lv_aload hx hb dX2_letDayGoBy_53 (lv_at hl 0 rfl) ?_
      refine lv_iload_n hx hb dX2_letDayGoBy_55 rfl (lv_at hl 2 rfl) ?_
      have hw := sH_foc (i := 5 + 8 * r + k) hw
      refine sc_v (sr_V (i := 5 + 8 * r + k) (As := [.int z]) (rest := []) ⟨hx, hb, hml, hown, hts⟩ (zX1_rainFalls l D a cs _ (5 + 8 * r + k) (by omega) _ z _) (cwV 1 hts gX2_letDayGoBy_X1_rainFalls rfl rfl rfl (by decide +kernel) ⟨Nat.le_of_ble_eq_true rfl, Nat.le_of_ble_eq_true rfl⟩) hK hN hw (by omega) (sE_p (by omega)) kcX1 rfl hl.1 (Nat.le_of_ble_eq_true rfl) dX2_letDayGoBy_56 ⟨Nat.le_of_ble_eq_true rfl, Nat.le_of_ble_eq_true rfl⟩) hw hA (fun H locs hw => ?_)
      obtain ⟨τ9, eτ9⟩ : ∃ zz : sS, va_up τ8 (5 + 8 * r + k) (f_X1_rainFalls (τ8 (5 + 8 * r + k)) z) = zz := ⟨_, rfl⟩
      rw [eτ9] at hw
      refine lv_aload hx hb dX2_letDayGoBy_59 (lv_at hl 0 rfl) ?_
      refine lv_aload_n hx hb dX2_letDayGoBy_61 rfl (lv_at hl 1 rfl) ?_
      refine sg_r (r := r) hx hb hts iX2_letDayGoBy_X2 hown hK hw hr2 2 (by decide) (hts _ mX2_letDayGoBy_2) dX2_letDayGoBy_62 ?_
      refine lv_aload_n hx hb dX2_letDayGoBy_65 rfl (lv_at hl 1 rfl) ?_
      refine sg_r (r := r) hx hb hts iX2_letDayGoBy_X2 hown hK hw hr2 3 (by decide) (hts _ mX2_letDayGoBy_3) dX2_letDayGoBy_66 ?_
      refine lv_iadd hx hb dX2_letDayGoBy_69 ?_
      have hw := sH_foc (i := 5 + 8 * r + k) hw
      refine sc_v (sr_V (i := 5 + 8 * r + k) (As := [.int ((τ9 (1 + r) 2) + (τ9 (1 + r) 3))]) (rest := []) ⟨hx, hb, hml, hown, hts⟩ (zX1_dryOut l D a cs _ (5 + 8 * r + k) (by omega) _ ((τ9 (1 + r) 2) + (τ9 (1 + r) 3)) _) (cwV 1 hts gX2_letDayGoBy_X1_dryOut rfl rfl rfl (by decide +kernel) ⟨Nat.le_of_ble_eq_true rfl, Nat.le_of_ble_eq_true rfl⟩) hK hN hw (by omega) (sE_p (by omega)) kcX1 rfl hl.1 (Nat.le_of_ble_eq_true rfl) dX2_letDayGoBy_70 ⟨Nat.le_of_ble_eq_true rfl, Nat.le_of_ble_eq_true rfl⟩) hw hA (fun H locs hw => ?_)
      obtain ⟨τ10, eτ10⟩ : ∃ zz : sS, va_up τ9 (5 + 8 * r + k) (f_X1_dryOut (τ9 (5 + 8 * r + k)) ((τ9 (1 + r) 2) + (τ9 (1 + r) 3))) = zz := ⟨_, rfl⟩
      rw [eτ10] at hw
      refine lv_aload hx hb dX2_letDayGoBy_73 (lv_at hl 0 rfl) ?_
      have hw := sH_foc (i := 5 + 8 * r + k) hw
      refine sc_v (sr_V (i := 5 + 8 * r + k) (As := []) (rest := []) ⟨hx, hb, hml, hown, hts⟩ (zX1_mixFresh l D a cs _ (5 + 8 * r + k) (by omega) _ _) (cwV 0 hts gX2_letDayGoBy_X1_mixFresh rfl rfl rfl (by decide +kernel) ⟨Nat.le_of_ble_eq_true rfl, Nat.le_of_ble_eq_true rfl⟩) hK hN hw (by omega) (sE_p (by omega)) kcX1 rfl hl.1 (Nat.le_of_ble_eq_true rfl) dX2_letDayGoBy_75 ⟨Nat.le_of_ble_eq_true rfl, Nat.le_of_ble_eq_true rfl⟩) hw hA (fun H locs hw => ?_)
      obtain ⟨τ11, eτ11⟩ : ∃ zz : sS, va_up τ10 (5 + 8 * r + k) (f_X1_mixFresh (τ10 (5 + 8 * r + k))) = zz := ⟨_, rfl⟩
      rw [eτ11] at hw
      refine lv_aload hx hb dX2_letDayGoBy_78 (lv_at hl 0 rfl) ?_
      have hw := sH_foc (i := 5 + 8 * r + k) hw
      refine sc_v (sr_V (i := 5 + 8 * r + k) (As := []) (rest := []) ⟨hx, hb, hml, hown, hts⟩ (zX1_dropMinerals l D a cs _ (5 + 8 * r + k) (by omega) _ _) (cwV 0 hts gX2_letDayGoBy_X1_dropMinerals rfl rfl rfl (by decide +kernel) ⟨Nat.le_of_ble_eq_true rfl, Nat.le_of_ble_eq_true rfl⟩) hK hN hw (by omega) (sE_p (by omega)) kcX1 rfl hl.1 (Nat.le_of_ble_eq_true rfl) dX2_letDayGoBy_80 ⟨Nat.le_of_ble_eq_true rfl, Nat.le_of_ble_eq_true rfl⟩) hw hA (fun H locs hw => ?_)
      obtain ⟨τ12, eτ12⟩ : ∃ zz : sS, va_up τ11 (5 + 8 * r + k) (f_X1_dropMinerals (τ11 (5 + 8 * r + k))) = zz := ⟨_, rfl⟩
      rw [eτ12] at hw
      refine lv_iinc (v := nI (k + 1)) (lv' := [(4, .int (nI (k + 1))), (5, .ref (a (5 + 8 * r + k))), (0, .ref (a (1 + r))), (3, .int z)]) hx hb dX2_letDayGoBy_83 hl (k := 3) rfl (nI_1 k) (by decide) rfl (fun ls hl => ?_)
      refine lv_goto (tgt := 31) hx hb dX2_letDayGoBy_86 (by decide) ?_
      have hstep : f_X2_ponds r z (n + 1) k τ = f_X2_ponds r z n (k + 1) τ12 := by
        subst eτ12 eτ11 eτ10 eτ9 eτ8; rfl
      exact ih (k + 1) τ12  H locs ls (by omega) hw (lv_sub hl [2, 3, 0] rfl) (fun H locs ls hw hl => kont H locs ls (by rw [hstep]; exact hw) (by exact hl))
  refine loop _ 8 0 τ5  _ _ _ (by decide) hw (lv_sub hl [1, 4, 0] rfl) (fun H locs ls hw hl => ?_)
  obtain ⟨τ13, eτ13⟩ : ∃ zz : sS, f_X2_ponds r z 8 0 τ5 = zz := ⟨_, rfl⟩
  rw [eτ13] at hw
  exact se_v hx hb hr hlocks hw (by subst eτ13 eτ5 eτ4 eτ3 eτ2 eτ1; exact rfl) dX2_letDayGoBy_89
theorem mX2_setGates_0 : (Cond.fieldLink RX2 11 "SaltRow$Row" "ponds" "[LSaltRow$Pond;") ∈ wsX2_setGates := by decide +kernel
theorem iX2_setGates_X2 : ∀ w ∈ wsX20, w ∈ wsX2_setGates := by decide +kernel
theorem mX2_setGates_2 : (Cond.fieldLink RX2 66 "SaltRow$Pond" "isOpen" "Z") ∈ wsX2_setGates := by decide +kernel
theorem iX2_setGates_X1 : ∀ w ∈ wsX10, w ∈ wsX2_setGates := by decide +kernel
set_option maxHeartbeats 4000000 in
set_option maxRecDepth 100000 in
theorem zX2_setGates (l : Launch) (D : va_G) (a : Nat → Nat) (cs : Nat → ClassId) (σ : sS) (r : Nat) (hr2 : r < 2) (x : Int32) : sMv l yX2_setGates wsX2_setGates ({ frames := 0, cells := 0, slots := 0, locals := 0 }) D a cs [.ref (a (1 + r)), .int x] σ (f_X2_setGates σ r x) := by
  intro sz
  refine Met.ofW (cc := cX2_setGates) (maxL := 3) (ret := none) (by decide) rfl ?_
  intro p e s m args below meth c s₁ B hml hv
  obtain ⟨rfl, hsz, hv2⟩ := hv
  have hv3 : sB D a cs σ sz s := ⟨hsz, hv2⟩
  subst hsz
  have hw := sH_start hv3
  obtain ⟨-, -, hK, -, hN⟩ := hv3
  have hx := B.exec
  have hb := B.bytes
  have hr := B.returns
  have hts := atoms_spec (ws := wsX2_setGates) B.pre
  have hown : s.vm.findClass RX2 = some m.cls := findClass_of_methodNamed B.named
  have hlocks := B.notSynchronized
  have hA : ∀ q : Nat, s.heap.size ≤ q → sA a s.heap.size q := sA_new
  have hl := lv_entry ([.ref (a (1 + r)), .int x]) (n := 3) (Nat.le_of_ble_eq_true rfl)
  rw [lg_entry_eq]
  generalize (lg_sl ([.ref (a (1 + r)), .int x]) ++ List.replicate (3 - (lg_sl ([.ref (a (1 + r)), .int x])).length) Slot.unset).toArray = ls at hl ⊢
  have hl : lv_has ls 3 [(0, .ref (a (1 + r))), (1, .int x)] := hl
  refine lv_iconst (v := 0) hx hb dX2_setGates_0 (by decide) ?_
  refine lv_istore_n (lv' := [(2, .int 0), (0, .ref (a (1 + r))), (1, .int x)]) hx hb dX2_setGates_1 rfl hl (by decide) rfl (fun ls hl => ?_)
  have loop : ∀ (Q : State → Prop) (n : Nat) (k : Nat) (τ : sS)  (H : Heap) (locs : List Loc) (ls : Array Slot), k + n = 8 → sH D a cs (sA a s.heap.size) s.heap τ H locs → lv_has ls 3 [(0, .ref (a (1 + r))), (1, .int x), (2, .int (nI k))] → (∀ (H : Heap) (locs : List Loc) (ls : Array Slot), sH D a cs (sA a s.heap.size) s.heap (f_X2_gates r x n k τ) H locs → lv_has ls 3 [(0, .ref (a (1 + r)))] → W p l e { frames := 0, cells := 0, slots := 0, locals := 0 } s m #[Value.ref (a (1 + r)), Value.int x] below meth c H locs 0 0 Q (F0 m 37 ls [])) → W p l e { frames := 0, cells := 0, slots := 0, locals := 0 } s m #[Value.ref (a (1 + r)), Value.int x] below meth c H locs 0 0 Q (F0 m 2 ls []) := by
    intro Q n
    induction n with
    | zero =>
      intro k τ  H locs ls hkn hw hl kont
      refine lv_iload_n hx hb dX2_setGates_2 rfl (lv_at hl 2 rfl) ?_
      refine lv_bipush (v := 8) hx hb dX2_setGates_3 (by decide) ?_
      refine lv_icmp_ge (tgt := 37) hx hb dX2_setGates_5 (by decide) (fun c1 => ?_) (fun c1 => absurd (by rw [show k = 8 by omega]; decide) c1)
      exact kont H locs ls hw (lv_sub hl [0] rfl)
    | succ n ih =>
      intro k τ  H locs ls hkn hw hl kont
      refine lv_iload_n hx hb dX2_setGates_2 rfl (lv_at hl 2 rfl) ?_
      refine lv_bipush (v := 8) hx hb dX2_setGates_3 (by decide) ?_
      refine lv_icmp_ge (tgt := 37) hx hb dX2_setGates_5 (by decide) (fun c2 => absurd c2 (nI_ge (a := k) (b := 8) (by omega) (by decide))) (fun c2 => ?_)
      refine lv_aload_n hx hb dX2_setGates_8 rfl (lv_at hl 0 rfl) ?_
      refine sg_rq (r := r) hx hb hts iX2_setGates_X2 hown hK hw hr2 (hts _ mX2_setGates_0) dX2_setGates_9 ?_
      refine lv_iload_n hx hb dX2_setGates_12 rfl (lv_at hl 2 rfl) ?_
      refine sg_q (r := r) (k := k) hx hb hK hw hr2 (by omega) rfl dX2_setGates_13 ?_
      refine lv_iload_n hx hb dX2_setGates_14 rfl (lv_at hl 1 rfl) ?_
      refine lv_iload_n hx hb dX2_setGates_15 rfl (lv_at hl 2 rfl) ?_
      refine lv_ishr hx hb dX2_setGates_16 ?_
      refine lv_iconst (v := 1) hx hb dX2_setGates_17 (by decide) ?_
      refine lv_iand hx hb dX2_setGates_18 ?_
      refine lv_iconst (v := 1) hx hb dX2_setGates_19 (by decide) ?_
      refine lv_icmp_ne (tgt := 27) hx hb dX2_setGates_20 (by decide) (fun c3 => ?_) (fun c3 => ?_)
      · refine lv_iconst (v := 0) hx hb dX2_setGates_27 (by decide) ?_
        refine sp_z hx hb hts iX2_setGates_X1 hown hK hw (by omega) 9 (Or.inl rfl) (by decide) (hts _ mX2_setGates_2) dX2_setGates_28 (fun H locs hw => ?_)
        obtain ⟨τ4, eτ4⟩ : ∃ zz : sS, va_up τ (5 + 8 * r + k) (upd (τ (5 + 8 * r + k)) 9 0) = zz := ⟨_, rfl⟩
        rw [eτ4] at hw
        refine lv_iinc (v := nI (k + 1)) (lv' := [(2, .int (nI (k + 1))), (0, .ref (a (1 + r))), (1, .int x)]) hx hb dX2_setGates_31 hl (k := 2) rfl (nI_1 k) (by decide) rfl (fun ls hl => ?_)
        refine lv_goto (tgt := 2) hx hb dX2_setGates_34 (by decide) ?_
        have hstep : f_X2_gates r x (n + 1) k τ = f_X2_gates r x n (k + 1) τ4 := by
          subst eτ4; show f_X2_gates r x n (k + 1) (va_up τ (5 + 8 * r + k) (upd (τ (5 + 8 * r + k)) 9 (f_bit x k))) = _; unfold f_bit; rw [if_neg c3] <;> rfl
        exact ih (k + 1) τ4  H locs ls (by omega) hw (lv_sub hl [1, 2, 0] rfl) (fun H locs ls hw hl => kont H locs ls (by rw [hstep]; exact hw) (by exact hl))
      · refine lv_iconst (v := 1) hx hb dX2_setGates_23 (by decide) ?_
        refine lv_goto (tgt := 28) hx hb dX2_setGates_24 (by decide) ?_
        refine sp_z hx hb hts iX2_setGates_X1 hown hK hw (by omega) 9 (Or.inr rfl) (by decide) (hts _ mX2_setGates_2) dX2_setGates_28 (fun H locs hw => ?_)
        obtain ⟨τ5, eτ5⟩ : ∃ zz : sS, va_up τ (5 + 8 * r + k) (upd (τ (5 + 8 * r + k)) 9 1) = zz := ⟨_, rfl⟩
        rw [eτ5] at hw
        refine lv_iinc (v := nI (k + 1)) (lv' := [(2, .int (nI (k + 1))), (0, .ref (a (1 + r))), (1, .int x)]) hx hb dX2_setGates_31 hl (k := 2) rfl (nI_1 k) (by decide) rfl (fun ls hl => ?_)
        refine lv_goto (tgt := 2) hx hb dX2_setGates_34 (by decide) ?_
        have hstep : f_X2_gates r x (n + 1) k τ = f_X2_gates r x n (k + 1) τ5 := by
          subst eτ5; show f_X2_gates r x n (k + 1) (va_up τ (5 + 8 * r + k) (upd (τ (5 + 8 * r + k)) 9 (f_bit x k))) = _; unfold f_bit; rw [if_pos c3] <;> rfl
        exact ih (k + 1) τ5  H locs ls (by omega) hw (lv_sub hl [1, 2, 0] rfl) (fun H locs ls hw hl => kont H locs ls (by rw [hstep]; exact hw) (by exact hl))
  refine loop _ 8 0 σ  _ _ _ (by decide) hw (lv_sub hl [1, 2, 0] rfl) (fun H locs ls hw hl => ?_)
  obtain ⟨τ6, eτ6⟩ : ∃ zz : sS, f_X2_gates r x 8 0 σ = zz := ⟨_, rfl⟩
  rw [eτ6] at hw
  exact se_v hx hb hr hlocks hw (by subst eτ6; exact rfl) dX2_setGates_37
theorem mX2_openGates_0 : (Cond.fieldLink RX2 11 "SaltRow$Row" "ponds" "[LSaltRow$Pond;") ∈ wsX2_openGates := by decide +kernel
theorem iX2_openGates_X2 : ∀ w ∈ wsX20, w ∈ wsX2_openGates := by decide +kernel
theorem mX2_openGates_2 : (Cond.fieldLink RX2 66 "SaltRow$Pond" "isOpen" "Z") ∈ wsX2_openGates := by decide +kernel
theorem iX2_openGates_X1 : ∀ w ∈ wsX10, w ∈ wsX2_openGates := by decide +kernel
set_option maxHeartbeats 4000000 in
set_option maxRecDepth 100000 in
theorem zX2_openGates (l : Launch) (D : va_G) (a : Nat → Nat) (cs : Nat → ClassId) (σ : sS) (r : Nat) (hr2 : r < 2)  : sMi l yX2_openGates wsX2_openGates ({ frames := 0, cells := 0, slots := 0, locals := 0 }) D a cs [.ref (a (1 + r))] σ (f_X2_openGates σ r) σ := by
  intro sz
  refine Met.ofW (cc := cX2_openGates) (maxL := 3) (ret := (some .int)) (by decide) rfl ?_
  intro p e s m args below meth c s₁ B hml hv
  obtain ⟨rfl, hsz, hv2⟩ := hv
  have hv3 : sB D a cs σ sz s := ⟨hsz, hv2⟩
  subst hsz
  have hw := sH_start hv3
  obtain ⟨-, -, hK, -, hN⟩ := hv3
  have hx := B.exec
  have hb := B.bytes
  have hr := B.returns
  have hts := atoms_spec (ws := wsX2_openGates) B.pre
  have hown : s.vm.findClass RX2 = some m.cls := findClass_of_methodNamed B.named
  have hlocks := B.notSynchronized
  have hA : ∀ q : Nat, s.heap.size ≤ q → sA a s.heap.size q := sA_new
  have hl := lv_entry ([.ref (a (1 + r))]) (n := 3) (Nat.le_of_ble_eq_true rfl)
  rw [lg_entry_eq]
  generalize (lg_sl ([.ref (a (1 + r))]) ++ List.replicate (3 - (lg_sl ([.ref (a (1 + r))])).length) Slot.unset).toArray = ls at hl ⊢
  have hl : lv_has ls 3 [(0, .ref (a (1 + r)))] := hl
  refine lv_iconst (v := 0) hx hb dX2_openGates_0 (by decide) ?_
  refine lv_istore_n (lv' := [(1, .int 0), (0, .ref (a (1 + r)))]) hx hb dX2_openGates_1 rfl hl (by decide) rfl (fun ls hl => ?_)
  refine lv_iconst (v := 0) hx hb dX2_openGates_2 (by decide) ?_
  refine lv_istore_n (lv' := [(2, .int 0), (1, .int 0), (0, .ref (a (1 + r)))]) hx hb dX2_openGates_3 rfl hl (by decide) rfl (fun ls hl => ?_)
  have loop : ∀ (Q : State → Prop) (n : Nat) (k : Nat) (τ : sS) (v : Int32) (H : Heap) (locs : List Loc) (ls : Array Slot), k + n = 8 → sH D a cs (sA a s.heap.size) s.heap τ H locs → lv_has ls 3 [(0, .ref (a (1 + r))), (1, .int v), (2, .int (nI k))] → (∀ (H : Heap) (locs : List Loc) (ls : Array Slot), sH D a cs (sA a s.heap.size) s.heap (τ) H locs → lv_has ls 3 [(1, .int (f_X2_gsum r τ n k v))] → W p l e { frames := 0, cells := 0, slots := 0, locals := 0 } s m #[Value.ref (a (1 + r))] below meth c H locs 0 0 Q (F0 m 38 ls [])) → W p l e { frames := 0, cells := 0, slots := 0, locals := 0 } s m #[Value.ref (a (1 + r))] below meth c H locs 0 0 Q (F0 m 4 ls []) := by
    intro Q n
    induction n with
    | zero =>
      intro k τ v H locs ls hkn hw hl kont
      refine lv_iload_n hx hb dX2_openGates_4 rfl (lv_at hl 2 rfl) ?_
      refine lv_bipush (v := 8) hx hb dX2_openGates_5 (by decide) ?_
      refine lv_icmp_ge (tgt := 38) hx hb dX2_openGates_7 (by decide) (fun c1 => ?_) (fun c1 => absurd (by rw [show k = 8 by omega]; decide) c1)
      exact kont H locs ls hw (lv_sub hl [1] rfl)
    | succ n ih =>
      intro k τ v H locs ls hkn hw hl kont
      refine lv_iload_n hx hb dX2_openGates_4 rfl (lv_at hl 2 rfl) ?_
      refine lv_bipush (v := 8) hx hb dX2_openGates_5 (by decide) ?_
      refine lv_icmp_ge (tgt := 38) hx hb dX2_openGates_7 (by decide) (fun c2 => absurd c2 (nI_ge (a := k) (b := 8) (by omega) (by decide))) (fun c2 => ?_)
      refine lv_iload_n hx hb dX2_openGates_10 rfl (lv_at hl 1 rfl) ?_
      refine lv_aload_n hx hb dX2_openGates_11 rfl (lv_at hl 0 rfl) ?_
      refine sg_rq (r := r) hx hb hts iX2_openGates_X2 hown hK hw hr2 (hts _ mX2_openGates_0) dX2_openGates_12 ?_
      refine lv_iload_n hx hb dX2_openGates_15 rfl (lv_at hl 2 rfl) ?_
      refine sg_q (r := r) (k := k) hx hb hK hw hr2 (by omega) rfl dX2_openGates_16 ?_
      refine sg_p hx hb hts iX2_openGates_X1 hown hK hw (by omega) 9 (by decide) (hts _ mX2_openGates_2) dX2_openGates_17 ?_
      refine lv_if_eq (tgt := 29) hx hb dX2_openGates_20 (by decide) (fun c3 => ?_) (fun c3 => ?_)
      · refine lv_iconst (v := 0) hx hb dX2_openGates_29 (by decide) ?_
        refine lv_iadd hx hb dX2_openGates_30 ?_
        refine lv_istore_n (lv' := [(1, .int (v + 0)), (0, .ref (a (1 + r))), (2, .int (nI k))]) hx hb dX2_openGates_31 rfl hl (by decide) rfl (fun ls hl => ?_)
        refine lv_iinc (v := nI (k + 1)) (lv' := [(2, .int (nI (k + 1))), (1, .int (v + 0)), (0, .ref (a (1 + r)))]) hx hb dX2_openGates_32 hl (k := 2) rfl (nI_1 k) (by decide) rfl (fun ls hl => ?_)
        refine lv_goto (tgt := 4) hx hb dX2_openGates_35 (by decide) ?_
        have hstep : τ = τ := by
          rfl
        have hval0 : f_X2_gsum r τ (n + 1) k v = f_X2_gsum r τ n (k + 1) (v + 0) := by
          show f_X2_gsum r τ n (k + 1) (v + f_gbit (τ (5 + 8 * r + k) 9) k) = _; unfold f_gbit; rw [if_pos c3] <;> rfl
        exact ih (k + 1) τ (v + 0) H locs ls (by omega) hw (lv_sub hl [2, 1, 0] rfl) (fun H locs ls hw hl => kont H locs ls (by rw [hstep]; exact hw) (by rw [hval0]; exact hl))
      · refine lv_iconst (v := 1) hx hb dX2_openGates_23 (by decide) ?_
        refine lv_iload_n hx hb dX2_openGates_24 rfl (lv_at hl 2 rfl) ?_
        refine lv_ishl hx hb dX2_openGates_25 ?_
        refine lv_goto (tgt := 30) hx hb dX2_openGates_26 (by decide) ?_
        refine lv_iadd hx hb dX2_openGates_30 ?_
        refine lw_topi (fun x4 ex4 => ?_)
        refine lv_istore_n (lv' := [(1, .int x4), (0, .ref (a (1 + r))), (2, .int (nI k))]) hx hb dX2_openGates_31 rfl hl (by decide) rfl (fun ls hl => ?_)
        refine lv_iinc (v := nI (k + 1)) (lv' := [(2, .int (nI (k + 1))), (1, .int x4), (0, .ref (a (1 + r)))]) hx hb dX2_openGates_32 hl (k := 2) rfl (nI_1 k) (by decide) rfl (fun ls hl => ?_)
        refine lv_goto (tgt := 4) hx hb dX2_openGates_35 (by decide) ?_
        have hstep : τ = τ := by
          subst ex4; rfl
        have hval0 : f_X2_gsum r τ (n + 1) k v = f_X2_gsum r τ n (k + 1) x4 := by
          subst ex4; show f_X2_gsum r τ n (k + 1) (v + f_gbit (τ (5 + 8 * r + k) 9) k) = _; unfold f_gbit; rw [if_neg c3] <;> rfl
        exact ih (k + 1) τ x4 H locs ls (by omega) hw (lv_sub hl [2, 1, 0] rfl) (fun H locs ls hw hl => kont H locs ls (by rw [hstep]; exact hw) (by rw [hval0]; exact hl))
  refine loop _ 8 0 σ 0 _ _ _ (by decide) hw (lv_sub hl [2, 1, 0] rfl) (fun H locs ls hw hl => ?_)
  obtain ⟨τ5, eτ5⟩ : ∃ zz : sS, σ = zz := ⟨_, rfl⟩
  rw [eτ5] at hw
  refine lv_iload_n hx hb dX2_openGates_38 rfl (lv_at hl 0 rfl) ?_
  exact se_i hx hb hr hlocks hw (by subst eτ5; exact rfl) (by subst eτ5; rfl) dX2_openGates_39
theorem mX2_coveredPans_0 : (Cond.fieldLink RX2 11 "SaltRow$Row" "ponds" "[LSaltRow$Pond;") ∈ wsX2_coveredPans := by decide +kernel
theorem iX2_coveredPans_X2 : ∀ w ∈ wsX20, w ∈ wsX2_coveredPans := by decide +kernel
theorem mX2_coveredPans_2 : (Cond.fieldLink RX2 92 "SaltRow$Pond" "isCovered" "Z") ∈ wsX2_coveredPans := by decide +kernel
theorem iX2_coveredPans_X1 : ∀ w ∈ wsX10, w ∈ wsX2_coveredPans := by decide +kernel
set_option maxHeartbeats 4000000 in
set_option maxRecDepth 100000 in
theorem zX2_coveredPans (l : Launch) (D : va_G) (a : Nat → Nat) (cs : Nat → ClassId) (σ : sS) (r : Nat) (hr2 : r < 2)  : sMi l yX2_coveredPans wsX2_coveredPans ({ frames := 0, cells := 0, slots := 0, locals := 0 }) D a cs [.ref (a (1 + r))] σ (f_X2_coveredPans σ r) σ := by
  intro sz
  refine Met.ofW (cc := cX2_coveredPans) (maxL := 3) (ret := (some .int)) (by decide) rfl ?_
  intro p e s m args below meth c s₁ B hml hv
  obtain ⟨rfl, hsz, hv2⟩ := hv
  have hv3 : sB D a cs σ sz s := ⟨hsz, hv2⟩
  subst hsz
  have hw := sH_start hv3
  obtain ⟨-, -, hK, -, hN⟩ := hv3
  have hx := B.exec
  have hb := B.bytes
  have hr := B.returns
  have hts := atoms_spec (ws := wsX2_coveredPans) B.pre
  have hown : s.vm.findClass RX2 = some m.cls := findClass_of_methodNamed B.named
  have hlocks := B.notSynchronized
  have hA : ∀ q : Nat, s.heap.size ≤ q → sA a s.heap.size q := sA_new
  have hl := lv_entry ([.ref (a (1 + r))]) (n := 3) (Nat.le_of_ble_eq_true rfl)
  rw [lg_entry_eq]
  generalize (lg_sl ([.ref (a (1 + r))]) ++ List.replicate (3 - (lg_sl ([.ref (a (1 + r))])).length) Slot.unset).toArray = ls at hl ⊢
  have hl : lv_has ls 3 [(0, .ref (a (1 + r)))] := hl
  refine lv_iconst (v := 0) hx hb dX2_coveredPans_0 (by decide) ?_
  refine lv_istore_n (lv' := [(1, .int 0), (0, .ref (a (1 + r)))]) hx hb dX2_coveredPans_1 rfl hl (by decide) rfl (fun ls hl => ?_)
  refine lv_iconst (v := 0) hx hb dX2_coveredPans_2 (by decide) ?_
  refine lv_istore_n (lv' := [(2, .int 0), (1, .int 0), (0, .ref (a (1 + r)))]) hx hb dX2_coveredPans_3 rfl hl (by decide) rfl (fun ls hl => ?_)
  have loop : ∀ (Q : State → Prop) (n : Nat) (k : Nat) (τ : sS) (v : Int32) (H : Heap) (locs : List Loc) (ls : Array Slot), k + n = 8 → sH D a cs (sA a s.heap.size) s.heap τ H locs → lv_has ls 3 [(0, .ref (a (1 + r))), (1, .int v), (2, .int (nI k))] → (∀ (H : Heap) (locs : List Loc) (ls : Array Slot), sH D a cs (sA a s.heap.size) s.heap (τ) H locs → lv_has ls 3 [(1, .int (f_X2_csum r τ n k v))] → W p l e { frames := 0, cells := 0, slots := 0, locals := 0 } s m #[Value.ref (a (1 + r))] below meth c H locs 0 0 Q (F0 m 38 ls [])) → W p l e { frames := 0, cells := 0, slots := 0, locals := 0 } s m #[Value.ref (a (1 + r))] below meth c H locs 0 0 Q (F0 m 4 ls []) := by
    intro Q n
    induction n with
    | zero =>
      intro k τ v H locs ls hkn hw hl kont
      refine lv_iload_n hx hb dX2_coveredPans_4 rfl (lv_at hl 2 rfl) ?_
      refine lv_bipush (v := 8) hx hb dX2_coveredPans_5 (by decide) ?_
      refine lv_icmp_ge (tgt := 38) hx hb dX2_coveredPans_7 (by decide) (fun c1 => ?_) (fun c1 => absurd (by rw [show k = 8 by omega]; decide) c1)
      exact kont H locs ls hw (lv_sub hl [1] rfl)
    | succ n ih =>
      intro k τ v H locs ls hkn hw hl kont
      refine lv_iload_n hx hb dX2_coveredPans_4 rfl (lv_at hl 2 rfl) ?_
      refine lv_bipush (v := 8) hx hb dX2_coveredPans_5 (by decide) ?_
      refine lv_icmp_ge (tgt := 38) hx hb dX2_coveredPans_7 (by decide) (fun c2 => absurd c2 (nI_ge (a := k) (b := 8) (by omega) (by decide))) (fun c2 => ?_)
      refine lv_iload_n hx hb dX2_coveredPans_10 rfl (lv_at hl 1 rfl) ?_
      refine lv_aload_n hx hb dX2_coveredPans_11 rfl (lv_at hl 0 rfl) ?_
      refine sg_rq (r := r) hx hb hts iX2_coveredPans_X2 hown hK hw hr2 (hts _ mX2_coveredPans_0) dX2_coveredPans_12 ?_
      refine lv_iload_n hx hb dX2_coveredPans_15 rfl (lv_at hl 2 rfl) ?_
      refine sg_q (r := r) (k := k) hx hb hK hw hr2 (by omega) rfl dX2_coveredPans_16 ?_
      refine sg_p hx hb hts iX2_coveredPans_X1 hown hK hw (by omega) 10 (by decide) (hts _ mX2_coveredPans_2) dX2_coveredPans_17 ?_
      refine lv_if_eq (tgt := 29) hx hb dX2_coveredPans_20 (by decide) (fun c3 => ?_) (fun c3 => ?_)
      · refine lv_iconst (v := 0) hx hb dX2_coveredPans_29 (by decide) ?_
        refine lv_iadd hx hb dX2_coveredPans_30 ?_
        refine lv_istore_n (lv' := [(1, .int (v + 0)), (0, .ref (a (1 + r))), (2, .int (nI k))]) hx hb dX2_coveredPans_31 rfl hl (by decide) rfl (fun ls hl => ?_)
        refine lv_iinc (v := nI (k + 1)) (lv' := [(2, .int (nI (k + 1))), (1, .int (v + 0)), (0, .ref (a (1 + r)))]) hx hb dX2_coveredPans_32 hl (k := 2) rfl (nI_1 k) (by decide) rfl (fun ls hl => ?_)
        refine lv_goto (tgt := 4) hx hb dX2_coveredPans_35 (by decide) ?_
        have hstep : τ = τ := by
          rfl
        have hval0 : f_X2_csum r τ (n + 1) k v = f_X2_csum r τ n (k + 1) (v + 0) := by
          show f_X2_csum r τ n (k + 1) (v + f_gbit (τ (5 + 8 * r + k) 10) k) = _; unfold f_gbit; rw [if_pos c3] <;> rfl
        exact ih (k + 1) τ (v + 0) H locs ls (by omega) hw (lv_sub hl [2, 1, 0] rfl) (fun H locs ls hw hl => kont H locs ls (by rw [hstep]; exact hw) (by rw [hval0]; exact hl))
      · refine lv_iconst (v := 1) hx hb dX2_coveredPans_23 (by decide) ?_
        refine lv_iload_n hx hb dX2_coveredPans_24 rfl (lv_at hl 2 rfl) ?_
        refine lv_ishl hx hb dX2_coveredPans_25 ?_
        refine lv_goto (tgt := 30) hx hb dX2_coveredPans_26 (by decide) ?_
        refine lv_iadd hx hb dX2_coveredPans_30 ?_
        refine lw_topi (fun x4 ex4 => ?_)
        refine lv_istore_n (lv' := [(1, .int x4), (0, .ref (a (1 + r))), (2, .int (nI k))]) hx hb dX2_coveredPans_31 rfl hl (by decide) rfl (fun ls hl => ?_)
        refine lv_iinc (v := nI (k + 1)) (lv' := [(2, .int (nI (k + 1))), (1, .int x4), (0, .ref (a (1 + r)))]) hx hb dX2_coveredPans_32 hl (k := 2) rfl (nI_1 k) (by decide) rfl (fun ls hl => ?_)
        refine lv_goto (tgt := 4) hx hb dX2_coveredPans_35 (by decide) ?_
        have hstep : τ = τ := by
          subst ex4; rfl
        have hval0 : f_X2_csum r τ (n + 1) k v = f_X2_csum r τ n (k + 1) x4 := by
          subst ex4; show f_X2_csum r τ n (k + 1) (v + f_gbit (τ (5 + 8 * r + k) 10) k) = _; unfold f_gbit; rw [if_neg c3] <;> rfl
        exact ih (k + 1) τ x4 H locs ls (by omega) hw (lv_sub hl [2, 1, 0] rfl) (fun H locs ls hw hl => kont H locs ls (by rw [hstep]; exact hw) (by rw [hval0]; exact hl))
  refine loop _ 8 0 σ 0 _ _ _ (by decide) hw (lv_sub hl [2, 1, 0] rfl) (fun H locs ls hw hl => ?_)
  obtain ⟨τ5, eτ5⟩ : ∃ zz : sS, σ = zz := ⟨_, rfl⟩
  rw [eτ5] at hw
  refine lv_iload_n hx hb dX2_coveredPans_38 rfl (lv_at hl 0 rfl) ?_
  exact se_i hx hb hr hlocks hw (by subst eτ5; exact rfl) (by subst eτ5; rfl) dX2_coveredPans_39
theorem mX2_saltFallenInPans_0 : (Cond.fieldLink RX2 11 "SaltRow$Row" "ponds" "[LSaltRow$Pond;") ∈ wsX2_saltFallenInPans := by decide +kernel
theorem iX2_saltFallenInPans_X2 : ∀ w ∈ wsX20, w ∈ wsX2_saltFallenInPans := by decide +kernel
theorem mX2_saltFallenInPans_2 : (Cond.fieldLink RX2 95 "SaltRow$Pond" "saltFallen" "I") ∈ wsX2_saltFallenInPans := by decide +kernel
theorem iX2_saltFallenInPans_X1 : ∀ w ∈ wsX10, w ∈ wsX2_saltFallenInPans := by decide +kernel
set_option maxHeartbeats 4000000 in
set_option maxRecDepth 100000 in
theorem zX2_saltFallenInPans (l : Launch) (D : va_G) (a : Nat → Nat) (cs : Nat → ClassId) (σ : sS) (r : Nat) (hr2 : r < 2)  : sMi l yX2_saltFallenInPans wsX2_saltFallenInPans ({ frames := 0, cells := 0, slots := 0, locals := 0 }) D a cs [.ref (a (1 + r))] σ (f_X2_saltFallenInPans σ r) σ := by
  intro sz
  refine Met.ofW (cc := cX2_saltFallenInPans) (maxL := 3) (ret := (some .int)) (by decide) rfl ?_
  intro p e s m args below meth c s₁ B hml hv
  obtain ⟨rfl, hsz, hv2⟩ := hv
  have hv3 : sB D a cs σ sz s := ⟨hsz, hv2⟩
  subst hsz
  have hw := sH_start hv3
  obtain ⟨-, -, hK, -, hN⟩ := hv3
  have hx := B.exec
  have hb := B.bytes
  have hr := B.returns
  have hts := atoms_spec (ws := wsX2_saltFallenInPans) B.pre
  have hown : s.vm.findClass RX2 = some m.cls := findClass_of_methodNamed B.named
  have hlocks := B.notSynchronized
  have hA : ∀ q : Nat, s.heap.size ≤ q → sA a s.heap.size q := sA_new
  have hl := lv_entry ([.ref (a (1 + r))]) (n := 3) (Nat.le_of_ble_eq_true rfl)
  rw [lg_entry_eq]
  generalize (lg_sl ([.ref (a (1 + r))]) ++ List.replicate (3 - (lg_sl ([.ref (a (1 + r))])).length) Slot.unset).toArray = ls at hl ⊢
  have hl : lv_has ls 3 [(0, .ref (a (1 + r)))] := hl
  refine lv_iconst (v := 0) hx hb dX2_saltFallenInPans_0 (by decide) ?_
  refine lv_istore_n (lv' := [(1, .int 0), (0, .ref (a (1 + r)))]) hx hb dX2_saltFallenInPans_1 rfl hl (by decide) rfl (fun ls hl => ?_)
  refine lv_iconst (v := 5) hx hb dX2_saltFallenInPans_2 (by decide) ?_
  refine lv_istore_n (lv' := [(2, .int 5), (1, .int 0), (0, .ref (a (1 + r)))]) hx hb dX2_saltFallenInPans_3 rfl hl (by decide) rfl (fun ls hl => ?_)
  have loop : ∀ (Q : State → Prop) (n : Nat) (k : Nat) (τ : sS) (v : Int32) (H : Heap) (locs : List Loc) (ls : Array Slot), k + n = 8 → sH D a cs (sA a s.heap.size) s.heap τ H locs → lv_has ls 3 [(0, .ref (a (1 + r))), (1, .int v), (2, .int (nI k))] → (∀ (H : Heap) (locs : List Loc) (ls : Array Slot), sH D a cs (sA a s.heap.size) s.heap (τ) H locs → lv_has ls 3 [(1, .int (f_X2_fsum r τ n k v))] → W p l e { frames := 0, cells := 0, slots := 0, locals := 0 } s m #[Value.ref (a (1 + r))] below meth c H locs 0 0 Q (F0 m 28 ls [])) → W p l e { frames := 0, cells := 0, slots := 0, locals := 0 } s m #[Value.ref (a (1 + r))] below meth c H locs 0 0 Q (F0 m 4 ls []) := by
    intro Q n
    induction n with
    | zero =>
      intro k τ v H locs ls hkn hw hl kont
      refine lv_iload_n hx hb dX2_saltFallenInPans_4 rfl (lv_at hl 2 rfl) ?_
      refine lv_bipush (v := 8) hx hb dX2_saltFallenInPans_5 (by decide) ?_
      refine lv_icmp_ge (tgt := 28) hx hb dX2_saltFallenInPans_7 (by decide) (fun c1 => ?_) (fun c1 => absurd (by rw [show k = 8 by omega]; decide) c1)
      exact kont H locs ls hw (lv_sub hl [1] rfl)
    | succ n ih =>
      intro k τ v H locs ls hkn hw hl kont
      refine lv_iload_n hx hb dX2_saltFallenInPans_4 rfl (lv_at hl 2 rfl) ?_
      refine lv_bipush (v := 8) hx hb dX2_saltFallenInPans_5 (by decide) ?_
      refine lv_icmp_ge (tgt := 28) hx hb dX2_saltFallenInPans_7 (by decide) (fun c2 => absurd c2 (nI_ge (a := k) (b := 8) (by omega) (by decide))) (fun c2 => ?_)
      refine lv_iload_n hx hb dX2_saltFallenInPans_10 rfl (lv_at hl 1 rfl) ?_
      refine lv_aload_n hx hb dX2_saltFallenInPans_11 rfl (lv_at hl 0 rfl) ?_
      refine sg_rq (r := r) hx hb hts iX2_saltFallenInPans_X2 hown hK hw hr2 (hts _ mX2_saltFallenInPans_0) dX2_saltFallenInPans_12 ?_
      refine lv_iload_n hx hb dX2_saltFallenInPans_15 rfl (lv_at hl 2 rfl) ?_
      refine sg_q (r := r) (k := k) hx hb hK hw hr2 (by omega) rfl dX2_saltFallenInPans_16 ?_
      refine sg_p hx hb hts iX2_saltFallenInPans_X1 hown hK hw (by omega) 8 (by decide) (hts _ mX2_saltFallenInPans_2) dX2_saltFallenInPans_17 ?_
      refine lv_iadd hx hb dX2_saltFallenInPans_20 ?_
      refine lw_topi (fun x3 ex3 => ?_)
      refine lv_istore_n (lv' := [(1, .int x3), (0, .ref (a (1 + r))), (2, .int (nI k))]) hx hb dX2_saltFallenInPans_21 rfl hl (by decide) rfl (fun ls hl => ?_)
      refine lv_iinc (v := nI (k + 1)) (lv' := [(2, .int (nI (k + 1))), (1, .int x3), (0, .ref (a (1 + r)))]) hx hb dX2_saltFallenInPans_22 hl (k := 2) rfl (nI_1 k) (by decide) rfl (fun ls hl => ?_)
      refine lv_goto (tgt := 4) hx hb dX2_saltFallenInPans_25 (by decide) ?_
      have hstep : τ = τ := by
        subst ex3; rfl
      have hval0 : f_X2_fsum r τ (n + 1) k v = f_X2_fsum r τ n (k + 1) x3 := by
        subst ex3; rfl
      exact ih (k + 1) τ x3 H locs ls (by omega) hw (lv_sub hl [2, 1, 0] rfl) (fun H locs ls hw hl => kont H locs ls (by rw [hstep]; exact hw) (by rw [hval0]; exact hl))
  refine loop _ 3 5 σ 0 _ _ _ (by decide) hw (lv_sub hl [2, 1, 0] rfl) (fun H locs ls hw hl => ?_)
  obtain ⟨τ4, eτ4⟩ : ∃ zz : sS, σ = zz := ⟨_, rfl⟩
  rw [eτ4] at hw
  refine lv_iload_n hx hb dX2_saltFallenInPans_28 rfl (lv_at hl 0 rfl) ?_
  exact se_i hx hb hr hlocks hw (by subst eτ4; exact rfl) (by subst eτ4; rfl) dX2_saltFallenInPans_29
theorem mX2_saltInPans_0 : (Cond.fieldLink RX2 11 "SaltRow$Row" "ponds" "[LSaltRow$Pond;") ∈ wsX2_saltInPans := by decide +kernel
theorem iX2_saltInPans_X2 : ∀ w ∈ wsX20, w ∈ wsX2_saltInPans := by decide +kernel
theorem mX2_saltInPans_2 : (Cond.fieldLink RX2 98 "SaltRow$Pond" "salt" "I") ∈ wsX2_saltInPans := by decide +kernel
theorem iX2_saltInPans_X1 : ∀ w ∈ wsX10, w ∈ wsX2_saltInPans := by decide +kernel
theorem mX2_saltInPans_4 : (Cond.fieldLink RX2 101 "SaltRow$Pond" "crustSalt" "I") ∈ wsX2_saltInPans := by decide +kernel
set_option maxHeartbeats 4000000 in
set_option maxRecDepth 100000 in
theorem zX2_saltInPans (l : Launch) (D : va_G) (a : Nat → Nat) (cs : Nat → ClassId) (σ : sS) (r : Nat) (hr2 : r < 2)  : sMi l yX2_saltInPans wsX2_saltInPans ({ frames := 0, cells := 0, slots := 0, locals := 0 }) D a cs [.ref (a (1 + r))] σ (f_X2_saltInPans σ r) σ := by
  intro sz
  refine Met.ofW (cc := cX2_saltInPans) (maxL := 3) (ret := (some .int)) (by decide) rfl ?_
  intro p e s m args below meth c s₁ B hml hv
  obtain ⟨rfl, hsz, hv2⟩ := hv
  have hv3 : sB D a cs σ sz s := ⟨hsz, hv2⟩
  subst hsz
  have hw := sH_start hv3
  obtain ⟨-, -, hK, -, hN⟩ := hv3
  have hx := B.exec
  have hb := B.bytes
  have hr := B.returns
  have hts := atoms_spec (ws := wsX2_saltInPans) B.pre
  have hown : s.vm.findClass RX2 = some m.cls := findClass_of_methodNamed B.named
  have hlocks := B.notSynchronized
  have hA : ∀ q : Nat, s.heap.size ≤ q → sA a s.heap.size q := sA_new
  have hl := lv_entry ([.ref (a (1 + r))]) (n := 3) (Nat.le_of_ble_eq_true rfl)
  rw [lg_entry_eq]
  generalize (lg_sl ([.ref (a (1 + r))]) ++ List.replicate (3 - (lg_sl ([.ref (a (1 + r))])).length) Slot.unset).toArray = ls at hl ⊢
  have hl : lv_has ls 3 [(0, .ref (a (1 + r)))] := hl
  refine lv_iconst (v := 0) hx hb dX2_saltInPans_0 (by decide) ?_
  refine lv_istore_n (lv' := [(1, .int 0), (0, .ref (a (1 + r)))]) hx hb dX2_saltInPans_1 rfl hl (by decide) rfl (fun ls hl => ?_)
  refine lv_iconst (v := 5) hx hb dX2_saltInPans_2 (by decide) ?_
  refine lv_istore_n (lv' := [(2, .int 5), (1, .int 0), (0, .ref (a (1 + r)))]) hx hb dX2_saltInPans_3 rfl hl (by decide) rfl (fun ls hl => ?_)
  have loop : ∀ (Q : State → Prop) (n : Nat) (k : Nat) (τ : sS) (v : Int32) (H : Heap) (locs : List Loc) (ls : Array Slot), k + n = 8 → sH D a cs (sA a s.heap.size) s.heap τ H locs → lv_has ls 3 [(0, .ref (a (1 + r))), (1, .int v), (2, .int (nI k))] → (∀ (H : Heap) (locs : List Loc) (ls : Array Slot), sH D a cs (sA a s.heap.size) s.heap (τ) H locs → lv_has ls 3 [(1, .int (f_X2_ssum r τ n k v))] → W p l e { frames := 0, cells := 0, slots := 0, locals := 0 } s m #[Value.ref (a (1 + r))] below meth c H locs 0 0 Q (F0 m 38 ls [])) → W p l e { frames := 0, cells := 0, slots := 0, locals := 0 } s m #[Value.ref (a (1 + r))] below meth c H locs 0 0 Q (F0 m 4 ls []) := by
    intro Q n
    induction n with
    | zero =>
      intro k τ v H locs ls hkn hw hl kont
      refine lv_iload_n hx hb dX2_saltInPans_4 rfl (lv_at hl 2 rfl) ?_
      refine lv_bipush (v := 8) hx hb dX2_saltInPans_5 (by decide) ?_
      refine lv_icmp_ge (tgt := 38) hx hb dX2_saltInPans_7 (by decide) (fun c1 => ?_) (fun c1 => absurd (by rw [show k = 8 by omega]; decide) c1)
      exact kont H locs ls hw (lv_sub hl [1] rfl)
    | succ n ih =>
      intro k τ v H locs ls hkn hw hl kont
      refine lv_iload_n hx hb dX2_saltInPans_4 rfl (lv_at hl 2 rfl) ?_
      refine lv_bipush (v := 8) hx hb dX2_saltInPans_5 (by decide) ?_
      refine lv_icmp_ge (tgt := 38) hx hb dX2_saltInPans_7 (by decide) (fun c2 => absurd c2 (nI_ge (a := k) (b := 8) (by omega) (by decide))) (fun c2 => ?_)
      refine lv_iload_n hx hb dX2_saltInPans_10 rfl (lv_at hl 1 rfl) ?_
      refine lv_aload_n hx hb dX2_saltInPans_11 rfl (lv_at hl 0 rfl) ?_
      refine sg_rq (r := r) hx hb hts iX2_saltInPans_X2 hown hK hw hr2 (hts _ mX2_saltInPans_0) dX2_saltInPans_12 ?_
      refine lv_iload_n hx hb dX2_saltInPans_15 rfl (lv_at hl 2 rfl) ?_
      refine sg_q (r := r) (k := k) hx hb hK hw hr2 (by omega) rfl dX2_saltInPans_16 ?_
      refine sg_p hx hb hts iX2_saltInPans_X1 hown hK hw (by omega) 2 (by decide) (hts _ mX2_saltInPans_2) dX2_saltInPans_17 ?_
      refine lv_aload_n hx hb dX2_saltInPans_20 rfl (lv_at hl 0 rfl) ?_
      refine sg_rq (r := r) hx hb hts iX2_saltInPans_X2 hown hK hw hr2 (hts _ mX2_saltInPans_0) dX2_saltInPans_21 ?_
      refine lv_iload_n hx hb dX2_saltInPans_24 rfl (lv_at hl 2 rfl) ?_
      refine sg_q (r := r) (k := k) hx hb hK hw hr2 (by omega) rfl dX2_saltInPans_25 ?_
      refine sg_p hx hb hts iX2_saltInPans_X1 hown hK hw (by omega) 6 (by decide) (hts _ mX2_saltInPans_4) dX2_saltInPans_26 ?_
      refine lv_iadd hx hb dX2_saltInPans_29 ?_
      refine lv_iadd hx hb dX2_saltInPans_30 ?_
      refine lw_topi (fun x3 ex3 => ?_)
      refine lv_istore_n (lv' := [(1, .int x3), (0, .ref (a (1 + r))), (2, .int (nI k))]) hx hb dX2_saltInPans_31 rfl hl (by decide) rfl (fun ls hl => ?_)
      refine lv_iinc (v := nI (k + 1)) (lv' := [(2, .int (nI (k + 1))), (1, .int x3), (0, .ref (a (1 + r)))]) hx hb dX2_saltInPans_32 hl (k := 2) rfl (nI_1 k) (by decide) rfl (fun ls hl => ?_)
      refine lv_goto (tgt := 4) hx hb dX2_saltInPans_35 (by decide) ?_
      have hstep : τ = τ := by
        subst ex3; rfl
      have hval0 : f_X2_ssum r τ (n + 1) k v = f_X2_ssum r τ n (k + 1) x3 := by
        subst ex3; rfl
      exact ih (k + 1) τ x3 H locs ls (by omega) hw (lv_sub hl [2, 1, 0] rfl) (fun H locs ls hw hl => kont H locs ls (by rw [hstep]; exact hw) (by rw [hval0]; exact hl))
  refine loop _ 3 5 σ 0 _ _ _ (by decide) hw (lv_sub hl [2, 1, 0] rfl) (fun H locs ls hw hl => ?_)
  obtain ⟨τ4, eτ4⟩ : ∃ zz : sS, σ = zz := ⟨_, rfl⟩
  rw [eτ4] at hw
  refine lv_iload_n hx hb dX2_saltInPans_38 rfl (lv_at hl 0 rfl) ?_
  exact se_i hx hb hr hlocks hw (by subst eτ4; exact rfl) (by subst eτ4; rfl) dX2_saltInPans_39
