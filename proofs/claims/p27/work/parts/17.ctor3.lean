/-! SaltRow() -/
abbrev sO0 (h0 : Nat) : va_W := [(h0, .inr (kX3, [.null, .null, .null, .int 0, .int 0, .int 0, .int 0, .int 0, .int 0, .int 0]))]
abbrev sOE (x y z : Value) : va_E := .inr (kX3, [x, y, z, .int 0, .int 0, .int 0, .int 0, .int 0, .int 0, .int 0])
theorem mX3_i_l : Cond.methodLink RX3 1 objectInit ∈ wsX3_init := by decide +kernel
theorem mX3_i_i : Cond.instanceMethod objectInit ∈ wsX3_init := by decide +kernel
theorem mX3_i_c : Cond.code objectInit ⟨#[0xb1]⟩ 1 none ∈ wsX3_init := by decide +kernel
theorem mX3_i_k2 : Cond.classLink RX3 7 RX2 ∈ wsX3_init := by decide +kernel
theorem mX3_i_n2 : Cond.instantiable RX2 5 ∈ wsX3_init := by decide +kernel
theorem mX3_i_z2 : Cond.initialized RX2 ∈ wsX3_init := by decide +kernel
theorem mX3_i_m2 : Cond.methodLink RX3 9 yX2_init ∈ wsX3_init := by decide +kernel
theorem mX3_i_y2 : Cond.instanceMethod yX2_init ∈ wsX3_init := by decide +kernel
theorem mX3_i_f0 : Cond.fieldLink RX3 10 "SaltRow" "row" "LSaltRow$Row;" ∈ wsX3_init := by decide +kernel
theorem mX3_i_f1 : Cond.fieldLink RX3 16 "SaltRow" "trial" "LSaltRow$Row;" ∈ wsX3_init := by decide +kernel
theorem mX3_i_f2 : Cond.fieldLink RX3 21 "SaltRow" "families" "[LSaltRow$Family;" ∈ wsX3_init := by decide +kernel
theorem mX3_i_k0 : Cond.classLink RX3 19 RX0 ∈ wsX3_init := by decide +kernel
theorem mX3_i_n0 : Cond.instantiable RX0 6 ∈ wsX3_init := by decide +kernel
theorem mX3_i_z0 : Cond.initialized RX0 ∈ wsX3_init := by decide +kernel
theorem mX3_i_y0 : Cond.instanceMethod yX0_init ∈ wsX3_init := by decide +kernel
theorem mX3_i_a : Cond.arrayClass .int ∈ wsX3_init := by decide +kernel
theorem iX3_i_X3 : ∀ w ∈ wsX30, w ∈ wsX3_init := by decide +kernel
theorem iX3_i_X2 : ∀ w ∈ wsX20, w ∈ wsX3_init := by decide +kernel
theorem iX3_i_X0 : ∀ w ∈ wsX00, w ∈ wsX3_init := by decide +kernel
theorem sFp_fst (F : List (Nat × Nat)) (x : Nat × Nat) : va_up (fun j => (F.map Prod.fst)[j]?) F.length (some x.1) = (fun j => ((F ++ [x]).map Prod.fst)[j]?) := by
  have h := sQl_up (F.map Prod.fst) 0 x.1
  rw [List.length_map] at h
  rw [h, List.map_append]
  rfl
def sNewQ (D : va_G) (h0 sz : Nat) : Array Value → State → Outcome → State → Prop := va_Qv (fun (u : (Nat → Nat) × (Nat → ClassId)) => u.1 0 = h0) (fun u t => va_P D vwCl (sW u.1 u.2 f_new) t.heap ∧ va_K D vwCl (sT u.2) t ∧ va_D (va_A (sO0 h0) sz) (sW u.1 u.2 f_new)) (va_A (sO0 h0) sz)
set_option maxHeartbeats 8000000 in
set_option maxRecDepth 100000 in
/-- SaltRow(): 33 cells come -/
theorem zX3_init (l : Launch) (D : va_G) (h0 sz : Nat) : Met l yX3_init wsX3_init ({ frames := 3, cells := 33, slots := 278, locals := 53 }) (va_Pc [.ref h0] (fun U => U.heap.size = sz ∧ va_P D vwCl (sO0 h0) U.heap ∧ va_K D vwCl [] U ∧ va_D (fun _ => True) (sO0 h0) ∧ sNA U)) (sNewQ D h0 sz) 33 278 (va_A (sO0 h0) sz) := by
  refine Met.ofW (cc := cX3_init) (maxL := 2) (ret := none) (by decide) rfl ?_
  intro p e s m args below meth c s₁ B hml hv
  obtain ⟨rfl, hsz, hP, hK, hD0, hNA⟩ := hv
  have hx := B.exec
  have hb := B.bytes
  have hr := B.returns
  have hts := atoms_spec (ws := wsX3_init) B.pre
  have hown : s.vm.findClass RX3 = some m.cls := findClass_of_methodNamed B.named
  have hlocks := B.notSynchronized
  have hin : meth.name = "<init>" := (name_of_methodNamed B.named B.method).1
  subst hsz
  have hD := hD0.self (sz := s.heap.size)
  have hA : ∀ q : Nat, s.heap.size ≤ q → (va_A (sO0 h0) s.heap.size) q := fun q h => Or.inr h
  have hS : va_S (va_A (sO0 h0) s.heap.size) s.heap s.heap [] := va_S.rf
  obtain ⟨cI, hKI⟩ : ∃ cI : ClassId, va_K D vwCl [(cI, .int)] s := by
    obtain ⟨cA, kA, comp, h1, h2, h3⟩ := Cond.arrayClass_spec (hts _ mX3_i_a)
    refine ⟨cA, hK.1, fun k x hx => ?_⟩
    have hz : k < 1 := (List.getElem?_eq_some_iff.mp hx).1
    rw [show k = 0 by omega] at hx
    cases hx
    exact ⟨fun n z => ⟨fun k h => (by cases h), kA, h2, comp, h3⟩, h1⟩
  have hl := lv_entry ([.ref h0]) (n := 2) (Nat.le_of_ble_eq_true rfl)
  rw [lg_entry_eq]
  generalize (lg_sl ([.ref h0]) ++ List.replicate (2 - (lg_sl ([.ref h0])).length) Slot.unset).toArray = ls at hl ⊢
  have hl : lv_has ls 2 [(0, .ref h0)] := hl
  refine lv_aload_n hx hb dX3_init_0 rfl (lv_at hl 0 rfl) ?_
  refine W.objInit hx hb hown (hts _ mX3_i_l) (hts _ mX3_i_i) (hts _ mX3_i_c) rfl (by rw [hml]; exact hl.1) rfl dX3_init_1 (Nat.le_of_ble_eq_true rfl) (Nat.le_of_ble_eq_true rfl) ?_
  refine W.eq (g2 := F0 m 4 ls []) rfl ?_
  -- the row
  refine lv_aload_n hx hb dX3_init_4 rfl (lv_at hl 0 rfl) ?_
  refine va_new (ci := kX2) (fs := [.null, .int 0, .int 0, .int 0, .int 0]) (C := RX2) (T := TX2) (N := 5) hx hb hts iX3_i_X2 tyX2 tyX2_ok hown (hts _ mX3_i_k2) (hts _ mX3_i_n2) (hts _ mX3_i_z2) hK hP hD hS hA kcX2 (fun j hj => by rcases (show j = 0 ∨ j = 1 ∨ j = 2 ∨ j = 3 ∨ j = 4 by omega) with rfl | rfl | rfl | rfl | rfl <;> rfl) (Nat.le_of_ble_eq_true rfl) (Nat.le_of_ble_eq_true rfl) dX3_init_5 (fun r0 H hP hD hS => ?_)
  refine lv_dup hx hb dX3_init_8 rfl ?_
  have hPc := hP.sub (ws' := sR0 r0) [1] rfl
  have hDc := hD.sub (ws' := sR0 r0) [1] (by decide) rfl
  have hKc := hK.sub (tys' := []) [] rfl
  have hFc := va_free (wc := sR0 r0) hD hS hA [1] rfl
  refine va_callv (va_runI (As := []) (rest := [.ref r0, .ref h0]) ⟨hx, hb, hml, hown, hts⟩ (zX2_init l D r0 H.size) (cwI 0 hts gX3_init_X2_init rfl rfl rfl (hts _ mX3_i_z2) (hts _ mX3_i_m2) (hts _ mX3_i_y2) rfl (by decide +kernel) ⟨Nat.le_of_ble_eq_true rfl, Nat.le_of_ble_eq_true rfl⟩) ⟨fun v U g mk z => by obtain ⟨z0, z1, zP, zK, zD, zN⟩ := z; exact ⟨z0, z1, zP, va_K.moved (u := U) (U := U.calling g mk v) (Vm.Alike.refl U.vm) zK, zD, sNA_calling zN⟩, fun U hU hW => ⟨rfl, by rw [hU], by rw [hU]; exact hPc, va_K.moved hW.alike hKc, hDc.weaken (fun _ _ _ _ => trivial), sNA_warm hW hNA⟩⟩ rfl rfl hl.1 rfl (lv_room (Nat.le_of_ble_eq_true rfl)) dX3_init_9 ⟨Nat.le_of_ble_eq_true rfl, Nat.le_of_ble_eq_true rfl⟩) hS (fun q _ h => hFc q h) hFc (fun u t H1 locs ht hvm hw hB hz1 hk1 hS => ?_)
  obtain ⟨q0, cP, L0⟩ := u
  have hL0 : L0.length = 8 := hw
  obtain ⟨hP1, hK1, hD1⟩ := hB
  rw [ht] at hP1
  have hKP := va_K.moved hvm.symm hK1
  obtain ⟨hP, hD⟩ := va_join (wr := [(h0, sOE .null .null .null)]) (w1 := sRW r0 q0 cP L0) hP hD [1] [0] rfl rfl (by decide) (by decide) hk1 hFc hP1 hD1
  clear hP1 hD1 hK1
  generalize H1 = H at hP hS ⊢
  refine va_putF (D := D) (ci := kX3) (v := .ref r0) (ty := .object "SaltRow$Row") (C := RX3) (T := TX3) (N := 10) hx hb hts iX3_i_X3 tyX3 tyX3_ok nmX3 hown hK hP hD hS 0 rfl kcX3 0 (by decide) (hts _ mX3_i_f0) (fun _ h9 => h9) rfl hin rfl (by decide +kernel) rfl rfl (Nat.le_of_ble_eq_true rfl) dX3_init_12 (fun H locs hP hD hS => ?_)
  have hP : va_P D vwCl ([(h0, sOE (.ref r0) .null .null), (r0, sRE q0), (q0, .inl (cP, sQl L0 8))] ++ sPl L0) H := hP
  have hD : va_D (va_A (sO0 h0) s.heap.size) ([(h0, sOE (.ref r0) .null .null), (r0, sRE q0), (q0, .inl (cP, sQl L0 8))] ++ sPl L0) := hD
  -- the other row
  refine lv_aload_n hx hb dX3_init_15 rfl (lv_at hl 0 rfl) ?_
  refine va_new (ci := kX2) (fs := [.null, .int 0, .int 0, .int 0, .int 0]) (C := RX2) (T := TX2) (N := 5) hx hb hts iX3_i_X2 tyX2 tyX2_ok hown (hts _ mX3_i_k2) (hts _ mX3_i_n2) (hts _ mX3_i_z2) hK hP hD hS hA kcX2 (fun j hj => by rcases (show j = 0 ∨ j = 1 ∨ j = 2 ∨ j = 3 ∨ j = 4 by omega) with rfl | rfl | rfl | rfl | rfl <;> rfl) (Nat.le_of_ble_eq_true rfl) (Nat.le_of_ble_eq_true rfl) dX3_init_16 (fun r1 H hP hD hS => ?_)
  refine lv_dup hx hb dX3_init_19 rfl ?_
  have hP := va_P.swap hP
  have hD := va_D.swap hD
  have hPc := hP.sub (ws' := sR0 r1) [3] rfl
  have hDc := hD.sub (ws' := sR0 r1) [3] (by decide) rfl
  have hFc := va_free (wc := sR0 r1) hD hS hA [3] rfl
  refine va_callv (va_runI (As := []) (rest := [.ref r1, .ref h0]) ⟨hx, hb, hml, hown, hts⟩ (zX2_init l D r1 H.size) (cwI 0 hts gX3_init_X2_init rfl rfl rfl (hts _ mX3_i_z2) (hts _ mX3_i_m2) (hts _ mX3_i_y2) rfl (by decide +kernel) ⟨Nat.le_of_ble_eq_true rfl, Nat.le_of_ble_eq_true rfl⟩) ⟨fun v U g mk z => by obtain ⟨z0, z1, zP, zK, zD, zN⟩ := z; exact ⟨z0, z1, zP, va_K.moved (u := U) (U := U.calling g mk v) (Vm.Alike.refl U.vm) zK, zD, sNA_calling zN⟩, fun U hU hW => ⟨rfl, by rw [hU], by rw [hU]; exact hPc, va_K.moved hW.alike hKc, hDc.weaken (fun _ _ _ _ => trivial), sNA_warm hW hNA⟩⟩ rfl rfl hl.1 rfl (lv_room (Nat.le_of_ble_eq_true rfl)) dX3_init_20 ⟨Nat.le_of_ble_eq_true rfl, Nat.le_of_ble_eq_true rfl⟩) hS (fun q _ h => hFc q h) hFc (fun u t H1 locs ht hvm hw hB hz1 hk1 hS => ?_)
  obtain ⟨q1, cP', L1⟩ := u
  have hL1 : L1.length = 8 := hw
  obtain ⟨hP1, hK1, hD1⟩ := hB
  rw [ht] at hP1
  obtain rfl : cP' = cP := va_K_one (va_K.moved hvm.symm hK1) hKP (i := 0) (j := 0) rfl rfl
  obtain ⟨hP, hD⟩ := va_joinQ (X := [(h0, sOE (.ref r0) .null .null), (r0, sRE q0), (q0, .inl (cP', sQl L0 8)), (r1, .inr (kX2, [.null, .int 0, .int 0, .int 0, .int 0]))]) (cx := sR0 r1) (wr := [(h0, sOE (.ref r0) .null .null), (r0, sRE q0), (q0, .inl (cP', sQl L0 8))]) (w1 := sRW r1 q1 cP' L1) (pl := sPl L0) hP hD [3] [0, 1, 2] rfl rfl (by decide) (by decide) hk1 hFc hP1 hD1
  generalize H1 = H at hP hS ⊢
  have hP : va_P D vwCl ([(h0, sOE (.ref r0) .null .null), (r0, sRE q0), (q0, .inl (cP', sQl L0 8)), (r1, sRE q1), (q1, .inl (cP', sQl L1 8))] ++ (sPl L1 ++ sPl L0)) H := hP
  have hD : va_D (va_A (sO0 h0) s.heap.size) ([(h0, sOE (.ref r0) .null .null), (r0, sRE q0), (q0, .inl (cP', sQl L0 8)), (r1, sRE q1), (q1, .inl (cP', sQl L1 8))] ++ (sPl L1 ++ sPl L0)) := hD
  refine va_putF (D := D) (ci := kX3) (v := .ref r1) (ty := .object "SaltRow$Row") (C := RX3) (T := TX3) (N := 10) hx hb hts iX3_i_X3 tyX3 tyX3_ok nmX3 hown hK hP hD hS 0 rfl kcX3 1 (by decide) (hts _ mX3_i_f1) (fun _ h9 => h9) rfl hin rfl (by decide +kernel) rfl rfl (Nat.le_of_ble_eq_true rfl) dX3_init_23 (fun H locs hP hD hS => ?_)
  -- the families
  refine lv_aload_n hx hb dX3_init_26 rfl (lv_at hl 0 rfl) ?_
  refine lv_bipush (v := 6) hx hb dX3_init_27 (by decide) ?_
  refine va_newq (N' := 6) hx hb hown (hts _ mX3_i_k0) hNA.2.2 hKI hP hD hS hA (by decide) (by decide) (by decide) (Nat.le_of_ble_eq_true rfl) (Nat.le_of_ble_eq_true rfl) dX3_init_29 (fun g cG H hK hP hD hS => ?_)
  refine va_putF (D := D) (ci := kX3) (v := .ref g) (ty := .array (.object "SaltRow$Family")) (C := RX3) (T := TX3) (N := 10) hx hb hts iX3_i_X3 tyX3 tyX3_ok nmX3 hown hK hP hD hS 0 rfl kcX3 2 (by decide) (hts _ mX3_i_f2) (fun _ h9 => h9) rfl hin rfl (by decide +kernel) rfl rfl (Nat.le_of_ble_eq_true rfl) dX3_init_32 (fun H locs hP hD hS => ?_)
  have hP := va_P.swap (a := [(h0, sOE (.ref r0) (.ref r1) (.ref g)), (r0, sRE q0), (q0, .inl (cP', sQl L0 8)), (r1, sRE q1), (q1, .inl (cP', sQl L1 8))]) (b := sPl L1 ++ sPl L0) (c := [(g, .inl (cG, 6, .inr (.inr (.inr (.inr (fun _ => none))))))]) hP
  have hD := va_D.swap (a := [(h0, sOE (.ref r0) (.ref r1) (.ref g)), (r0, sRE q0), (q0, .inl (cP', sQl L0 8)), (r1, sRE q1), (q1, .inl (cP', sQl L1 8))]) (b := sPl L1 ++ sPl L0) (c := [(g, .inl (cG, 6, .inr (.inr (.inr (.inr (fun _ => none))))))]) hD
  refine lv_iconst (v := 0) hx hb dX3_init_35 (by decide) ?_
  refine lv_istore_n (lv' := [(1, .int 0), (0, .ref h0)]) hx hb dX3_init_36 rfl hl (by decide) rfl (fun ls hl => ?_)
  have loop : ∀ (n : Nat) (F : List (Nat × Nat)) (H : Heap) (locs : List Loc) (ls : Array Slot), F.length + n = 6 → va_P D vwCl (sX6 h0 r0 q0 r1 q1 g cP' cG L0 L1 F ++ ((sPl L1 ++ sPl L0) ++ sFp cI F)) H → va_D (va_A (sO0 h0) s.heap.size) (sX6 h0 r0 q0 r1 q1 g cP' cG L0 L1 F ++ ((sPl L1 ++ sPl L0) ++ sFp cI F)) → va_S (va_A (sO0 h0) s.heap.size) s.heap H locs → lv_has ls 2 [(0, .ref h0), (1, .int (nI F.length))] →
      W p l e { frames := 3, cells := 33, slots := 278, locals := 53 } s m #[.ref h0] below meth c H locs (21 + 2 * F.length) (224 + 9 * F.length) (MQ below (sNewQ D h0 s.heap.size) #[.ref h0] s 33 278 (va_A (sO0 h0) s.heap.size)) (F0 m 37 ls []) := by
    intro n
    induction n with
    | zero =>
      intro F H locs ls hn hP hD hS hl
      refine lv_iload_n hx hb dX3_init_37 rfl (lv_at hl 1 rfl) ?_
      refine lv_aload_n hx hb dX3_init_38 rfl (lv_at hl 0 rfl) ?_
      refine va_get (D := D) (ci := kX3) (v := .ref g) (C := RX3) (T := TX3) (N := 10) hx hb hts iX3_i_X3 hown hK hP 0 rfl kcX3 2 (by decide) (hts _ mX3_i_f2) (fun _ h9 => h9) rfl dX3_init_39 ?_
      refine va_alen (v := 6) hx hb hK hP 5 1 rfl rfl rfl dX3_init_42 ?_
      refine lv_icmp_ge (tgt := 65) hx hb dX3_init_43 (by decide) (fun c1 => ?_) (fun c1 => absurd (by rw [show F.length = 6 by omega]; decide) c1)
      refine W.widen (k := 33) (n := 278) (by omega) (by omega) ?_
      obtain ⟨a, ha0, hPw, hDw⟩ := sW_made hL0 hL1 (by omega) hP hD
      have hKw : va_K D vwCl (sT (fun k => if k = 0 then cP' else if k = 1 then cG else cI)) s := by
        have h1 := (hKP.app (hK.sub (tys' := [(cG, .object "SaltRow$Family"), (cI, .int)]) [1, 0] rfl))
        exact h1
      exact W.vret hx hb hr (fun t ht hW => ⟨⟨(a, fun k => if k = 0 then cP' else if k = 1 then cG else cI), rfl, ha0, by rw [ht]; exact hPw, va_K.moved hW.alike hKw, hDw⟩, hS.F ht⟩) hS.2.2 dX3_init_65 hlocks
    | succ n ih =>
      intro F H locs ls hn hP hD hS hl
      refine lv_iload_n hx hb dX3_init_37 rfl (lv_at hl 1 rfl) ?_
      refine lv_aload_n hx hb dX3_init_38 rfl (lv_at hl 0 rfl) ?_
      refine va_get (D := D) (ci := kX3) (v := .ref g) (C := RX3) (T := TX3) (N := 10) hx hb hts iX3_i_X3 hown hK hP 0 rfl kcX3 2 (by decide) (hts _ mX3_i_f2) (fun _ h9 => h9) rfl dX3_init_39 ?_
      refine va_alen (v := 6) hx hb hK hP 5 1 rfl rfl rfl dX3_init_42 ?_
      refine lv_icmp_ge (tgt := 65) hx hb dX3_init_43 (by decide) (fun c1 => absurd c1 (nI_ge (a := F.length) (b := 6) (by omega) (by decide))) (fun c1 => ?_)
      refine lv_aload_n hx hb dX3_init_46 rfl (lv_at hl 0 rfl) ?_
      refine va_get (D := D) (ci := kX3) (v := .ref g) (C := RX3) (T := TX3) (N := 10) hx hb hts iX3_i_X3 hown hK hP 0 rfl kcX3 2 (by decide) (hts _ mX3_i_f2) (fun _ h9 => h9) rfl dX3_init_47 ?_
      refine lv_iload_n hx hb dX3_init_50 rfl (lv_at hl 1 rfl) ?_
      refine va_new (ci := kX0) (fs := [.null, .int 0, .int 0, .int 0, .int 0, .int 0]) (C := RX0) (T := TX0) (N := 6) hx hb hts iX3_i_X0 tyX0 tyX0_ok hown (hts _ mX3_i_k0) (hts _ mX3_i_n0) (hts _ mX3_i_z0) hK hP hD hS hA kcX0 (fun j hj => by rcases (show j = 0 ∨ j = 1 ∨ j = 2 ∨ j = 3 ∨ j = 4 ∨ j = 5 by omega) with rfl | rfl | rfl | rfl | rfl | rfl <;> rfl) (by show 21 + 2 * F.length + 1 ≤ 33; omega) (by show 224 + 9 * F.length + 6 ≤ 278; omega) dX3_init_51 (fun x H hP hD hS => ?_)
      refine lv_dup hx hb dX3_init_54 rfl ?_
      have hP := va_P.swap (a := sX6 h0 r0 q0 r1 q1 g cP' cG L0 L1 F) (b := (sPl L1 ++ sPl L0) ++ sFp cI F) (c := sF0 x) hP
      have hD := va_D.swap (a := sX6 h0 r0 q0 r1 q1 g cP' cG L0 L1 F) (b := (sPl L1 ++ sPl L0) ++ sFp cI F) (c := sF0 x) hD
      have hPc := hP.sub (ws' := sF0 x) [6] rfl
      have hDc := hD.sub (ws' := sF0 x) [6] (by decide) rfl
      have hFc := va_free (wc := sF0 x) hD hS hA [6] rfl
      refine va_callv (va_runIN (As := []) (rest := [.ref x, .int (nI F.length), .ref g]) ⟨hx, hb, hml, hown, hts⟩ (zX0_init l D x H.size) ⟨va_cnB 0 hts gX3_init_X0_init_n25 rfl rfl rfl (sN_X3_X0_init hNA.1) (hts _ mX3_i_z0) (by decide +kernel) ⟨Nat.le_of_ble_eq_true rfl, Nat.le_of_ble_eq_true rfl⟩, rfl, hts _ mX3_i_y0⟩ ⟨fun v U g mk z => by obtain ⟨z0, z1, zP, zK, zD⟩ := z; exact ⟨z0, z1, zP, va_K.moved (u := U) (U := U.calling g mk v) (Vm.Alike.refl U.vm) zK, zD⟩, fun U hU hW => ⟨rfl, by rw [hU], by rw [hU]; exact hPc, va_K.moved hW.alike hKc, hDc.weaken (fun _ _ _ _ => trivial)⟩⟩ rfl rfl hl.1 rfl (lv_room (Nat.le_of_ble_eq_true rfl)) dX3_init_55 ⟨by show 21 + 2 * F.length + 1 + 1 ≤ 33; omega, by show 224 + 9 * F.length + 6 + 3 ≤ 278; omega⟩) hS (fun q _ h => hFc q h) hFc (fun u t H1 locs ht hvm hw hB hz1 hk1 hS => ?_)
      obtain ⟨z, cI'⟩ := u
      obtain ⟨hP1, hK1, hD1⟩ := hB
      rw [ht] at hP1
      obtain rfl : cI' = cI := va_K_one (va_K.moved hvm.symm hK1) hKI (i := 0) (j := 0) rfl rfl
      obtain ⟨hP, hD⟩ := va_joinQ (X := sX6 h0 r0 q0 r1 q1 g cP' cG L0 L1 F ++ sF0 x) (cx := sF0 x) (wr := sX6 h0 r0 q0 r1 q1 g cP' cG L0 L1 F) (w1 := [(x, sFE z), (z, sIE cI')]) (pl := (sPl L1 ++ sPl L0) ++ sFp cI' F) hP hD [6] [0, 1, 2, 3, 4, 5] rfl rfl (by decide) (by decide) hk1 hFc hP1 hD1
      generalize H1 = H at hP hS ⊢
      refine va_astq (r := (RX0, TX0, 6)) (ci := kX0) (vs := [.ref z, .int 0, .int 0, .int 0, .int 0, .int 0]) hx hb hK hP hD hS 5 1 6 rfl rfl rfl kcX0 (vp_in_nI (by omega) (by omega)) dX3_init_58 (fun H locs hP hD hS => ?_)
      rw [nI_clamp (by omega), show va_up (fun j => (F.map Prod.fst)[j]?) F.length (some x) = (fun j => ((F ++ [(x, z)]).map Prod.fst)[j]?) from sFp_fst F (x, z)] at hP hD
      have e9 : sFp cI' (F ++ [(x, z)]) = sFp cI' F ++ [(x, sFE z), (z, sIE cI')] := sFp_app cI' F (x, z)
      have hP : va_P D vwCl (sX6 h0 r0 q0 r1 q1 g cP' cG L0 L1 (F ++ [(x, z)]) ++ ((sPl L1 ++ sPl L0) ++ sFp cI' (F ++ [(x, z)]))) H := by
        have h2 := va_P.swap (a := sX6 h0 r0 q0 r1 q1 g cP' cG L0 L1 (F ++ [(x, z)])) (b := [(x, sFE z), (z, sIE cI')]) (c := (sPl L1 ++ sPl L0) ++ sFp cI' F) hP
        rw [List.append_assoc, List.append_assoc (sPl L1 ++ sPl L0), ← e9] at h2
        exact h2
      have hD : va_D (va_A (sO0 h0) s.heap.size) (sX6 h0 r0 q0 r1 q1 g cP' cG L0 L1 (F ++ [(x, z)]) ++ ((sPl L1 ++ sPl L0) ++ sFp cI' (F ++ [(x, z)]))) := by
        have h2 := va_D.swap (a := sX6 h0 r0 q0 r1 q1 g cP' cG L0 L1 (F ++ [(x, z)])) (b := [(x, sFE z), (z, sIE cI')]) (c := (sPl L1 ++ sPl L0) ++ sFp cI' F) hD
        rw [List.append_assoc, List.append_assoc (sPl L1 ++ sPl L0), ← e9] at h2
        exact h2
      refine lv_iinc (v := nI (F ++ [(x, z)]).length) (lv' := [(1, .int (nI (F ++ [(x, z)]).length)), (0, .ref h0)]) hx hb dX3_init_59 hl (k := 1) rfl (by rw [List.length_append]; exact nI_1 F.length) (by decide) rfl (fun ls hl => ?_)
      refine lv_goto (tgt := 37) hx hb dX3_init_62 (by decide) ?_
      refine W.widen (k := 21 + 2 * (F ++ [(x, z)]).length) (n := 224 + 9 * (F ++ [(x, z)]).length) (by rw [List.length_append]; show 21 + 2 * F.length + 1 + 1 ≤ 21 + 2 * (F.length + 1); omega) (by rw [List.length_append]; show 224 + 9 * F.length + 6 + 3 ≤ 224 + 9 * (F.length + 1); omega) ?_
      exact ih (F ++ [(x, z)]) H locs ls (by rw [List.length_append]; show F.length + 1 + n = 6; omega) hP hD hS (lv_sub hl [1, 0] rfl)
  have e0 : (fun _ : Nat => (none : Option Nat)) = (fun j => (([] : List (Nat × Nat)).map Prod.fst)[j]?) := by funext j; simp
  refine W.widen (k := 21 + 2 * ([] : List (Nat × Nat)).length) (n := 224 + 9 * ([] : List (Nat × Nat)).length) (by decide) (by decide) ?_
  refine loop 6 [] H locs ls (by decide) ?_ ?_ hS (lv_sub hl [1, 0] rfl)
  · rw [e0] at hP
    show va_P D vwCl (_ ++ ((sPl L1 ++ sPl L0) ++ [])) H
    rw [List.append_nil]
    exact hP
  · rw [e0] at hD
    show va_D _ (_ ++ ((sPl L1 ++ sPl L0) ++ []))
    rw [List.append_nil]
    exact hD
