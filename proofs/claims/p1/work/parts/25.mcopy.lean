/-! The reference copies ponds and rows. -/
theorem mX4_c_k : Cond.classLink RX4 10 RX4 ∈ wsX4_copy := by decide +kernel
theorem mX4_c_n : Cond.instantiable RX4 11 ∈ wsX4_copy := by decide +kernel
theorem mX4_c_z : Cond.initialized RX4 ∈ wsX4_copy := by decide +kernel
theorem mX4_c_m : Cond.methodLink RX4 18 yX4_init ∈ wsX4_copy := by decide +kernel
theorem mX4_c_y : Cond.instanceMethod yX4_init ∈ wsX4_copy := by decide +kernel
theorem mX4_c_area : Cond.fieldLink RX4 9 "SaltRowModel$Pond" "area" "I" ∈ wsX4_copy := by decide +kernel
theorem mX4_c_brine : Cond.fieldLink RX4 19 "SaltRowModel$Pond" "brine" "I" ∈ wsX4_copy := by decide +kernel
theorem mX4_c_salt : Cond.fieldLink RX4 22 "SaltRowModel$Pond" "salt" "I" ∈ wsX4_copy := by decide +kernel
theorem mX4_c_gypsum : Cond.fieldLink RX4 25 "SaltRowModel$Pond" "gypsum" "I" ∈ wsX4_copy := by decide +kernel
theorem mX4_c_bitter : Cond.fieldLink RX4 28 "SaltRowModel$Pond" "bitter" "I" ∈ wsX4_copy := by decide +kernel
theorem mX4_c_fresh : Cond.fieldLink RX4 31 "SaltRowModel$Pond" "fresh" "I" ∈ wsX4_copy := by decide +kernel
theorem mX4_c_crust : Cond.fieldLink RX4 34 "SaltRowModel$Pond" "crust" "I" ∈ wsX4_copy := by decide +kernel
theorem mX4_c_dirt : Cond.fieldLink RX4 37 "SaltRowModel$Pond" "dirt" "I" ∈ wsX4_copy := by decide +kernel
theorem mX4_c_isOpen : Cond.fieldLink RX4 40 "SaltRowModel$Pond" "isOpen" "Z" ∈ wsX4_copy := by decide +kernel
theorem mX4_c_isCovered : Cond.fieldLink RX4 44 "SaltRowModel$Pond" "isCovered" "Z" ∈ wsX4_copy := by decide +kernel
theorem iX4_c_X4 : ∀ w ∈ wsX40, w ∈ wsX4_copy := by decide +kernel
abbrev m1 (h0 : Nat) (f : Nat → Int32) : va_W := [(h0, .inr (kX4, mPv f))]
abbrev m2 (h0 x : Nat) (f g : Nat → Int32) : va_W := [(h0, .inr (kX4, mPv f)), (x, .inr (kX4, mPv g))]
set_option maxHeartbeats 4000000 in
set_option maxRecDepth 100000 in
/-- copy() of a pond: all but the harvest -/
theorem zX4_copy (l : Launch) (D : va_G) (h0 sz : Nat) (f : Nat → Int32) (h8 : f 8 = 0 ∨ f 8 = 1) (h9 : f 9 = 0 ∨ f 9 = 1) : Met l yX4_copy wsX4_copy ({ frames := 2, cells := 1, slots := 11, locals := 32 }) (va_Pc [.ref h0] (fun U => U.heap.size = sz ∧ va_P D vwCl (m1 h0 f) U.heap ∧ va_K D vwCl [] U ∧ va_D (fun _ => True) (m1 h0 f))) (va_Qr (fun (_ : Unit) => True) (fun _ x t => va_P D vwCl (m2 h0 x f (upd f 10 (-1))) t.heap ∧ va_D (va_A (m1 h0 f) sz) (m2 h0 x f (upd f 10 (-1)))) (va_A (m1 h0 f) sz)) 1 11 (va_A (m1 h0 f) sz) := by
  refine Met.ofW (cc := cX4_copy) (maxL := 2) (ret := (some (.object "SaltRowModel$Pond"))) (by decide) rfl ?_
  intro p e s m args below meth c s₁ B hml hv
  obtain ⟨rfl, hsz, hP, hK, hD0⟩ := hv
  have hx := B.exec
  have hb := B.bytes
  have hr := B.returns
  have hts := atoms_spec (ws := wsX4_copy) B.pre
  have hown : s.vm.findClass RX4 = some m.cls := findClass_of_methodNamed B.named
  have hlocks := B.notSynchronized
  subst hsz
  have hD := hD0.self (sz := s.heap.size)
  have hA : ∀ q : Nat, s.heap.size ≤ q → (va_A (m1 h0 f) s.heap.size) q := fun q h => Or.inr h
  have hS : va_S (va_A (m1 h0 f) s.heap.size) s.heap s.heap [] := va_S.rf
  have hl := lv_entry ([.ref h0]) (n := 2) (Nat.le_of_ble_eq_true rfl)
  rw [lg_entry_eq]
  generalize (lg_sl ([.ref h0]) ++ List.replicate (2 - (lg_sl ([.ref h0])).length) Slot.unset).toArray = ls at hl ⊢
  have hl : lv_has ls 2 [(0, .ref h0)] := hl
  refine va_new (ci := kX4) (fs := mPv (fun _ => 0)) (C := RX4) (T := TX4) (N := 11) hx hb hts iX4_c_X4 tyX4 tyX4_ok hown (hts _ mX4_c_k) (hts _ mX4_c_n) (hts _ mX4_c_z) hK hP hD hS hA kcX4 (fun j hj => by rcases (show j = 0 ∨ j = 1 ∨ j = 2 ∨ j = 3 ∨ j = 4 ∨ j = 5 ∨ j = 6 ∨ j = 7 ∨ j = 8 ∨ j = 9 ∨ j = 10 by omega) with rfl | rfl | rfl | rfl | rfl | rfl | rfl | rfl | rfl | rfl | rfl <;> rfl) (Nat.le_of_ble_eq_true rfl) (Nat.le_of_ble_eq_true rfl) dX4_copy_0 (fun x H hP hD hS => ?_)
  refine lv_dup hx hb dX4_copy_3 rfl ?_
  have hP : va_P D vwCl (m2 h0 x f (fun _ => 0)) H := hP
  have hD : va_D (va_A (m1 h0 f) s.heap.size) (m2 h0 x f (fun _ => 0)) := hD
  have hPc := hP.sub (ws' := [(x, .inr (kX4, mPv (fun _ => 0)))]) [1] rfl
  have hDc := hD.sub (ws' := [(x, .inr (kX4, mPv (fun _ => 0)))]) [1] (by decide) rfl
  have hFc := va_free (wc := [(x, .inr (kX4, mPv (fun _ => 0)))]) hD hS hA [1] rfl
  refine va_callv (va_runI (As := []) (rest := [.ref x]) ⟨hx, hb, hml, hown, hts⟩ (zX4_init l D x H.size) (cwI 0 hts gX4_copy_X4_init rfl rfl rfl (hts _ mX4_c_z) (hts _ mX4_c_m) (hts _ mX4_c_y) rfl (by decide +kernel) ⟨Nat.le_of_ble_eq_true rfl, Nat.le_of_ble_eq_true rfl⟩) ⟨fun v U g mk z => by obtain ⟨z0, z1, zP, zK, zD⟩ := z; exact ⟨z0, z1, zP, va_K.moved (u := U) (U := U.calling g mk v) (Vm.Alike.refl U.vm) zK, zD⟩, fun U hU hW => ⟨rfl, by rw [hU], by rw [hU]; exact hPc, va_K.moved hW.alike hK, hDc.weaken (fun _ _ _ _ => trivial)⟩⟩ rfl rfl hl.1 rfl (lv_room (Nat.le_of_ble_eq_true rfl)) dX4_copy_4 ⟨Nat.le_of_ble_eq_true rfl, Nat.le_of_ble_eq_true rfl⟩) hS (fun q _ h => hFc q h) hFc (fun u t H1 locs ht hvm hw hB hz1 hk1 hS => ?_)
  obtain ⟨hP1, hD1⟩ := hB
  rw [ht] at hP1
  obtain ⟨hP, hD⟩ := va_join (wr := m1 h0 f) (w1 := [(x, mPE)]) hP hD [1] [0] rfl rfl (by decide) (by decide) hk1 hFc hP1 hD1
  generalize H1 = H at hP hS ⊢
  have hP : va_P D vwCl (m2 h0 x f (upd (upd (fun _ => 0) 0 3) 10 (-1))) H := hP
  have hD : va_D (va_A (m1 h0 f) s.heap.size) (m2 h0 x f (upd (upd (fun _ => 0) 0 3) 10 (-1))) := hD
  refine lv_astore_n (lv' := [(1, .ref x), (0, .ref h0)]) hx hb dX4_copy_7 rfl hl (by decide) rfl (fun ls hl => ?_)
  refine lv_aload_n hx hb dX4_copy_8 rfl (lv_at hl 0 rfl) ?_
  refine lv_aload_n hx hb dX4_copy_9 rfl (lv_at hl 1 rfl) ?_
  refine va_get (D := D) (ci := kX4) (v := .int (f 0)) (C := RX4) (T := TX4) (N := 11) hx hb hts iX4_c_X4 hown hK hP 0 rfl kcX4 0 (by decide) (hts _ mX4_c_area) (fun _ h9 => h9) rfl dX4_copy_10 ?_
  refine va_put (D := D) (ci := kX4) (v := .int (f 0)) (ty := .int) (C := RX4) (T := TX4) (N := 11) hx hb hts iX4_c_X4 tyX4 tyX4_ok nmX4 hown hK hP hD hS 1 rfl kcX4 0 (by decide) (hts _ mX4_c_area) (fun _ h9 => h9) rfl (by decide +kernel) rfl rfl (Nat.le_of_ble_eq_true rfl) dX4_copy_13 (fun H locs hP hD hS => ?_)
  refine lv_aload_n hx hb dX4_copy_16 rfl (lv_at hl 0 rfl) ?_
  refine lv_aload_n hx hb dX4_copy_17 rfl (lv_at hl 1 rfl) ?_
  refine va_get (D := D) (ci := kX4) (v := .int (f 1)) (C := RX4) (T := TX4) (N := 11) hx hb hts iX4_c_X4 hown hK hP 0 rfl kcX4 1 (by decide) (hts _ mX4_c_brine) (fun _ h9 => h9) rfl dX4_copy_18 ?_
  refine va_put (D := D) (ci := kX4) (v := .int (f 1)) (ty := .int) (C := RX4) (T := TX4) (N := 11) hx hb hts iX4_c_X4 tyX4 tyX4_ok nmX4 hown hK hP hD hS 1 rfl kcX4 1 (by decide) (hts _ mX4_c_brine) (fun _ h9 => h9) rfl (by decide +kernel) rfl rfl (Nat.le_of_ble_eq_true rfl) dX4_copy_21 (fun H locs hP hD hS => ?_)
  refine lv_aload_n hx hb dX4_copy_24 rfl (lv_at hl 0 rfl) ?_
  refine lv_aload_n hx hb dX4_copy_25 rfl (lv_at hl 1 rfl) ?_
  refine va_get (D := D) (ci := kX4) (v := .int (f 2)) (C := RX4) (T := TX4) (N := 11) hx hb hts iX4_c_X4 hown hK hP 0 rfl kcX4 2 (by decide) (hts _ mX4_c_salt) (fun _ h9 => h9) rfl dX4_copy_26 ?_
  refine va_put (D := D) (ci := kX4) (v := .int (f 2)) (ty := .int) (C := RX4) (T := TX4) (N := 11) hx hb hts iX4_c_X4 tyX4 tyX4_ok nmX4 hown hK hP hD hS 1 rfl kcX4 2 (by decide) (hts _ mX4_c_salt) (fun _ h9 => h9) rfl (by decide +kernel) rfl rfl (Nat.le_of_ble_eq_true rfl) dX4_copy_29 (fun H locs hP hD hS => ?_)
  refine lv_aload_n hx hb dX4_copy_32 rfl (lv_at hl 0 rfl) ?_
  refine lv_aload_n hx hb dX4_copy_33 rfl (lv_at hl 1 rfl) ?_
  refine va_get (D := D) (ci := kX4) (v := .int (f 3)) (C := RX4) (T := TX4) (N := 11) hx hb hts iX4_c_X4 hown hK hP 0 rfl kcX4 3 (by decide) (hts _ mX4_c_gypsum) (fun _ h9 => h9) rfl dX4_copy_34 ?_
  refine va_put (D := D) (ci := kX4) (v := .int (f 3)) (ty := .int) (C := RX4) (T := TX4) (N := 11) hx hb hts iX4_c_X4 tyX4 tyX4_ok nmX4 hown hK hP hD hS 1 rfl kcX4 3 (by decide) (hts _ mX4_c_gypsum) (fun _ h9 => h9) rfl (by decide +kernel) rfl rfl (Nat.le_of_ble_eq_true rfl) dX4_copy_37 (fun H locs hP hD hS => ?_)
  refine lv_aload_n hx hb dX4_copy_40 rfl (lv_at hl 0 rfl) ?_
  refine lv_aload_n hx hb dX4_copy_41 rfl (lv_at hl 1 rfl) ?_
  refine va_get (D := D) (ci := kX4) (v := .int (f 4)) (C := RX4) (T := TX4) (N := 11) hx hb hts iX4_c_X4 hown hK hP 0 rfl kcX4 4 (by decide) (hts _ mX4_c_bitter) (fun _ h9 => h9) rfl dX4_copy_42 ?_
  refine va_put (D := D) (ci := kX4) (v := .int (f 4)) (ty := .int) (C := RX4) (T := TX4) (N := 11) hx hb hts iX4_c_X4 tyX4 tyX4_ok nmX4 hown hK hP hD hS 1 rfl kcX4 4 (by decide) (hts _ mX4_c_bitter) (fun _ h9 => h9) rfl (by decide +kernel) rfl rfl (Nat.le_of_ble_eq_true rfl) dX4_copy_45 (fun H locs hP hD hS => ?_)
  refine lv_aload_n hx hb dX4_copy_48 rfl (lv_at hl 0 rfl) ?_
  refine lv_aload_n hx hb dX4_copy_49 rfl (lv_at hl 1 rfl) ?_
  refine va_get (D := D) (ci := kX4) (v := .int (f 5)) (C := RX4) (T := TX4) (N := 11) hx hb hts iX4_c_X4 hown hK hP 0 rfl kcX4 5 (by decide) (hts _ mX4_c_fresh) (fun _ h9 => h9) rfl dX4_copy_50 ?_
  refine va_put (D := D) (ci := kX4) (v := .int (f 5)) (ty := .int) (C := RX4) (T := TX4) (N := 11) hx hb hts iX4_c_X4 tyX4 tyX4_ok nmX4 hown hK hP hD hS 1 rfl kcX4 5 (by decide) (hts _ mX4_c_fresh) (fun _ h9 => h9) rfl (by decide +kernel) rfl rfl (Nat.le_of_ble_eq_true rfl) dX4_copy_53 (fun H locs hP hD hS => ?_)
  refine lv_aload_n hx hb dX4_copy_56 rfl (lv_at hl 0 rfl) ?_
  refine lv_aload_n hx hb dX4_copy_57 rfl (lv_at hl 1 rfl) ?_
  refine va_get (D := D) (ci := kX4) (v := .int (f 6)) (C := RX4) (T := TX4) (N := 11) hx hb hts iX4_c_X4 hown hK hP 0 rfl kcX4 6 (by decide) (hts _ mX4_c_crust) (fun _ h9 => h9) rfl dX4_copy_58 ?_
  refine va_put (D := D) (ci := kX4) (v := .int (f 6)) (ty := .int) (C := RX4) (T := TX4) (N := 11) hx hb hts iX4_c_X4 tyX4 tyX4_ok nmX4 hown hK hP hD hS 1 rfl kcX4 6 (by decide) (hts _ mX4_c_crust) (fun _ h9 => h9) rfl (by decide +kernel) rfl rfl (Nat.le_of_ble_eq_true rfl) dX4_copy_61 (fun H locs hP hD hS => ?_)
  refine lv_aload_n hx hb dX4_copy_64 rfl (lv_at hl 0 rfl) ?_
  refine lv_aload_n hx hb dX4_copy_65 rfl (lv_at hl 1 rfl) ?_
  refine va_get (D := D) (ci := kX4) (v := .int (f 7)) (C := RX4) (T := TX4) (N := 11) hx hb hts iX4_c_X4 hown hK hP 0 rfl kcX4 7 (by decide) (hts _ mX4_c_dirt) (fun _ h9 => h9) rfl dX4_copy_66 ?_
  refine va_put (D := D) (ci := kX4) (v := .int (f 7)) (ty := .int) (C := RX4) (T := TX4) (N := 11) hx hb hts iX4_c_X4 tyX4 tyX4_ok nmX4 hown hK hP hD hS 1 rfl kcX4 7 (by decide) (hts _ mX4_c_dirt) (fun _ h9 => h9) rfl (by decide +kernel) rfl rfl (Nat.le_of_ble_eq_true rfl) dX4_copy_69 (fun H locs hP hD hS => ?_)
  refine lv_aload_n hx hb dX4_copy_72 rfl (lv_at hl 0 rfl) ?_
  refine lv_aload_n hx hb dX4_copy_73 rfl (lv_at hl 1 rfl) ?_
  refine va_get (D := D) (ci := kX4) (v := .int (f 8)) (C := RX4) (T := TX4) (N := 11) hx hb hts iX4_c_X4 hown hK hP 0 rfl kcX4 8 (by decide) (hts _ mX4_c_isOpen) (fun _ h9 => h9) rfl dX4_copy_74 ?_
  refine va_put (D := D) (ci := kX4) (v := .int (f 8)) (ty := .boolean) (C := RX4) (T := TX4) (N := 11) hx hb hts iX4_c_X4 tyX4 tyX4_ok nmX4 hown hK hP hD hS 1 rfl kcX4 8 (by decide) (hts _ mX4_c_isOpen) (fun _ h9 => h9) rfl (by decide +kernel) (by rcases h8 with h | h <;> rw [h] <;> rfl) (by rcases h8 with h | h <;> rw [h] <;> rfl) (Nat.le_of_ble_eq_true rfl) dX4_copy_77 (fun H locs hP hD hS => ?_)
  refine lv_aload_n hx hb dX4_copy_80 rfl (lv_at hl 0 rfl) ?_
  refine lv_aload_n hx hb dX4_copy_81 rfl (lv_at hl 1 rfl) ?_
  refine va_get (D := D) (ci := kX4) (v := .int (f 9)) (C := RX4) (T := TX4) (N := 11) hx hb hts iX4_c_X4 hown hK hP 0 rfl kcX4 9 (by decide) (hts _ mX4_c_isCovered) (fun _ h9 => h9) rfl dX4_copy_82 ?_
  refine va_put (D := D) (ci := kX4) (v := .int (f 9)) (ty := .boolean) (C := RX4) (T := TX4) (N := 11) hx hb hts iX4_c_X4 tyX4 tyX4_ok nmX4 hown hK hP hD hS 1 rfl kcX4 9 (by decide) (hts _ mX4_c_isCovered) (fun _ h9 => h9) rfl (by decide +kernel) (by rcases h9 with h | h <;> rw [h] <;> rfl) (by rcases h9 with h | h <;> rw [h] <;> rfl) (Nat.le_of_ble_eq_true rfl) dX4_copy_85 (fun H locs hP hD hS => ?_)
  refine lv_aload_n hx hb dX4_copy_88 rfl (lv_at hl 0 rfl) ?_
  have hP : va_P D vwCl (m2 h0 x f (upd f 10 (-1))) H := hP
  have hD : va_D (va_A (m1 h0 f) s.heap.size) (m2 h0 x f (upd f 10 (-1))) := hD
  exact W.aret hx hb hr (Or.inl ⟨_, rfl⟩) (Or.inr ⟨_, rfl⟩) (fun t ht hW => ⟨⟨(), x, rfl, trivial, by subst ht; exact ⟨hP, hD⟩⟩, hS.F ht⟩) hS.2.2 dX4_copy_89 hlocks
/-- behind a call that was given all that lay beside the world -/
theorem mH_join {D : va_G} {a : Nat → Nat} {cs : Nat → ClassId} {N : Nat} {ρ : sS} {wc w1 : va_W} {A : Nat → Prop} {H0 H H1 : Heap} {locs locs1 : List Loc} (hw : mH D a cs N A H0 ρ wc H locs) (hA : ∀ q, H0.size ≤ q → A q) (hk : ∀ q : Nat, q < H.size → ¬ va_A wc H.size q → H1[q]? = H[q]?) (hP1 : va_P D vwCl w1 H1) (hD1 : va_D (va_A wc H.size) w1) (hS : va_S A H0 H1 locs1) : mH D a cs N A H0 ρ w1 H1 locs1 := by
  have hno : ∀ i, i < N → ¬ va_A wc H.size (a i) := by
    rintro i hi (⟨j, e, hj⟩ | h)
    · have := hw.2.1.1 i (N + j) _ (a i, e) (mX_get hi) (by rw [mX_x]; exact hj) rfl
      omega
    · exact absurd (hw.1 i _ (mX_get hi)).lt (Nat.not_lt.mpr h)
  have hF : ∀ q, va_A wc H.size q → A q := by
    rintro q (⟨j, e, hj⟩ | h)
    · exact hw.2.1.2 (N + j) _ (by rw [mX_x]; exact hj)
    · exact hA q (Nat.le_trans hw.2.2.1 h)
  refine ⟨((mP_pre hw.1).kept (fun k q hq => ?_)).app hP1, (mD_pre hw.2.1).app (hD1.weaken (fun _ _ _ h => hF _ h)) (fun i j p1 p2 hi hj e => ?_), hS⟩
  · obtain ⟨hi, rfl⟩ := mW_inv hq
    exact hk _ (hw.1 k _ (mX_get hi)).lt (hno k hi)
  · obtain ⟨hi2, rfl⟩ := mW_inv hi
    exact hno i hi2 (by rw [show a i = p2.1 from e]; exact hD1.2 j p2 hj)
theorem mP_free {D : va_G} {a : Nat → Nat} {cs : Nat → ClassId} {N : Nat} {ρ : sS} {wc : va_W} {A : Nat → Prop} {H0 H : Heap} {locs : List Loc} (hw : mH D a cs N A H0 ρ wc H locs) (hA : ∀ q, H0.size ≤ q → A q) : ∀ q, va_A wc H.size q → A q := by
  rintro q (⟨j, e, hj⟩ | h)
  · exact hw.2.1.2 (N + j) _ (by rw [mX_x]; exact hj)
  · exact hA q (Nat.le_trans hw.2.2.1 h)
theorem mD_suf {A : Nat → Prop} {N : Nat} {a : Nat → Nat} {cs : Nat → ClassId} {ρ : sS} {xs : va_W} (h : va_D A (mW N a cs ρ ++ xs)) : va_D A xs := ⟨fun i j p q hp hq e => by
    have := h.1 (N + i) (N + j) p q (by rw [mX_x]; exact hp) (by rw [mX_x]; exact hq) e
    omega, fun k q hk => h.2 (N + k) q (by rw [mX_x]; exact hk)⟩
/-- one thing of the world is given to a call that makes another -/
theorem mH_one {D : va_G} {a : Nat → Nat} {cs : Nat → ClassId} {N : Nat} {ρ : sS} {xs : va_W} {A : Nat → Prop} {H0 H H1 : Heap} {locs locs1 : List Loc} {i x : Nat} {ex : va_E} (hw : mH D a cs N A H0 ρ xs H locs) (hA : ∀ q, H0.size ≤ q → A q) (hi : i < N) (hk : ∀ q : Nat, q < H.size → ¬ va_A [(a i, mE a cs i (ρ i))] H.size q → H1[q]? = H[q]?) (hP1 : va_P D vwCl [(a i, mE a cs i (ρ i)), (x, ex)] H1) (hD1 : va_D (va_A [(a i, mE a cs i (ρ i))] H.size) [(a i, mE a cs i (ρ i)), (x, ex)]) (hS : va_S A H0 H1 locs1) : mH D a cs N A H0 ρ (xs ++ [(x, ex)]) H1 locs1 := by
  have hx : H.size ≤ x := by
    rcases hD1.2 1 _ rfl with ⟨j, e, hj⟩ | h
    · have hj0 : j < 1 := (List.getElem?_eq_some_iff.mp hj).1
      rw [show j = 0 by omega] at hj
      have e2 : a i = x := congrArg Prod.fst (Option.some.inj hj)
      have := hD1.1 0 1 _ _ rfl rfl e2
      omega
    · exact h
  have hk2 : ∀ (k : Nat) (q : Nat × va_E), (mW N a cs ρ ++ xs)[k]? = some q → k ≠ i → H1[q.1]? = H[q.1]? := fun k q hq hki => hk q.1 (hw.1 k q hq).lt (by
    rintro (⟨j, e, hj⟩ | h)
    · have hj0 : j < 1 := (List.getElem?_eq_some_iff.mp hj).1
      rw [show j = 0 by omega] at hj
      have e2 : a i = q.1 := congrArg Prod.fst (Option.some.inj hj)
      exact hki (hw.2.1.1 k i q _ hq (mX_get hi) e2.symm)
    · exact absurd (hw.1 k q hq).lt (Nat.not_lt.mpr h))
  have hP : va_P D vwCl (mW N a cs ρ ++ xs) H1 := fun k q hq => by
    by_cases hki : k = i
    · subst hki
      rw [mX_get hi] at hq
      cases hq
      exact hP1 0 _ rfl
    · exact (hw.1 k q hq).kept (hk2 k q hq hki)
  refine ⟨?_, ?_, hS⟩
  · rw [← List.append_assoc]
    exact hP.app (fun k q hq => hP1 (k + 1) q (by rw [List.getElem?_cons_succ]; exact hq))
  · rw [← List.append_assoc]
    refine hw.2.1.app ⟨fun i j p1 p2 hi hj _ => ?_, fun k p1 hk1 => ?_⟩ (fun i j p1 p2 hi hj e => ?_)
    · have := (List.getElem?_eq_some_iff.mp hi).1
      have := (List.getElem?_eq_some_iff.mp hj).1
      simp only [List.length_singleton] at *
      omega
    · have hk0 : k < 1 := (List.getElem?_eq_some_iff.mp hk1).1
      rw [show k = 0 by omega] at hk1
      cases hk1
      exact hA x (Nat.le_trans hw.2.2.1 hx)
    · have hj0 : j < 1 := (List.getElem?_eq_some_iff.mp hj).1
      rw [show j = 0 by omega] at hj
      cases hj
      have := (hw.1 i p1 hi).lt
      exact absurd (show p1.1 = x from e) (by omega)
/-- a row that was made, told by a function of its cells -/
def m_row0 : sS := fun i k => if 2 ≤ i ∧ i < 10 then upd (upd (fun _ => 0) 0 3) 10 (-1) k else 0
theorem mW_made {D : va_G} {H : Heap} {h0 q : Nat} {cs : Nat → ClassId} {L : List Nat} (h8 : L.length = 8) (hP : va_P D vwCl (mRW h0 q (cs 0) L) H) : ∃ u : Nat → Nat, u 0 = h0 ∧ va_P D vwCl (mW 10 u cs m_row0) H ∧ (mW 10 u cs m_row0).map Prod.fst = (mRW h0 q (cs 0) L).map Prod.fst := by
  obtain ⟨x0, x1, x2, x3, x4, x5, x6, x7, rfl⟩ := len8 h8
  obtain ⟨a, ha⟩ : ∃ a : Nat → Nat, a = fun i => [h0, q, x0, x1, x2, x3, x4, x5, x6, x7].getD i 0 := ⟨_, rfl⟩
  refine ⟨a, by rw [ha]; rfl, ?_, by rw [ha]; rfl⟩
  intro k r hk
  obtain ⟨hi, rfl⟩ := mW_inv hk
  rw [ha]
  match k, hi with
  | 1, _ => exact (hP 1 _ rfl).trans (congrArg some (sQ_cell (fun j hj => by rcases (show j = 0 ∨ j = 1 ∨ j = 2 ∨ j = 3 ∨ j = 4 ∨ j = 5 ∨ j = 6 ∨ j = 7 by omega) with rfl | rfl | rfl | rfl | rfl | rfl | rfl | rfl <;> rfl)))
  | 0, _ => exact hP 0 _ rfl
  | 2, _ => exact hP 2 _ rfl
  | 3, _ => exact hP 3 _ rfl
  | 4, _ => exact hP 4 _ rfl
  | 5, _ => exact hP 5 _ rfl
  | 6, _ => exact hP 6 _ rfl
  | 7, _ => exact hP 7 _ rfl
  | 8, _ => exact hP 8 _ rfl
  | 9, _ => exact hP 9 _ rfl
/-- a new pond takes its place in the other row -/
theorem mW_astore {D : va_G} {A : Nat → Prop} {H0 H : Heap} {locs : List Loc} {a u : Nat → Nat} {cs : Nat → ClassId} {N k x : Nat} {σ τ : sS} {g : Nat → Int32} (hk : k < 8)
    (hP : va_P D vwCl ((mW N a cs σ ++ (mW 10 u cs τ ++ ([(x, .inr (kX4, mPv g))] : va_W))).set (N + 1) (u 1, .inl (cs 0, 8, .inr (.inr (.inr (.inr (va_up (fun j => some (u (2 + j))) k (some x)))))))) H)
    (hD : va_D A ((mW N a cs σ ++ (mW 10 u cs τ ++ ([(x, .inr (kX4, mPv g))] : va_W))).set (N + 1) (u 1, .inl (cs 0, 8, .inr (.inr (.inr (.inr (va_up (fun j => some (u (2 + j))) k (some x))))))))) (hS : va_S A H0 H locs) :
    mH D a cs N A H0 σ (mW 10 (va_up u (2 + k) x) cs (va_up τ (2 + k) g)) H locs := by
  rw [mX_setx, List.set_append_left _ _ (by rw [mW_len]; omega)] at hP hD
  have e0 : va_up (fun j => some (u (2 + j))) k (some x) = (fun j => some (va_up u (2 + k) x (2 + j))) := by
    funext j
    by_cases e : j = k
    · subst e; rw [va_up_self, va_up_self]
    · rw [va_up_ne _ _ e, va_up_ne _ _ (by omega)]
  have e1 : va_up u (2 + k) x 1 = u 1 := va_up_ne _ _ (by omega)
  have e2 : va_up u (2 + k) x 0 = u 0 := va_up_ne _ _ (by omega)
  have hlen : ((mW 10 u cs τ).set 1 (u 1, .inl (cs 0, 8, .inr (.inr (.inr (.inr (va_up (fun j => some (u (2 + j))) k (some x)))))))).length = 10 := by rw [List.length_set, mW_len]
  have hg : ∀ (i : Nat) (q : Nat × va_E), (mW N a cs σ ++ mW 10 (va_up u (2 + k) x) cs (va_up τ (2 + k) g))[i]? = some q → (mW N a cs σ ++ ((mW 10 u cs τ).set 1 (u 1, .inl (cs 0, 8, .inr (.inr (.inr (.inr (va_up (fun j => some (u (2 + j))) k (some x))))))) ++ [(x, .inr (kX4, mPv g))]))[if i = N + (2 + k) then N + 10 else i]? = some q := by
    intro i q hq
    by_cases hiN : i < N
    · rw [if_neg (by omega), mX_get hiN]
      rw [mX_get hiN] at hq
      exact hq
    · obtain ⟨j, rfl⟩ : ∃ j, i = N + j := ⟨i - N, by omega⟩
      rw [mX_x] at hq
      obtain ⟨hj, rfl⟩ := mW_inv hq
      by_cases hj2 : j = 2 + k
      · subst hj2
        rw [if_pos rfl, mX_x, List.getElem?_append_right (by rw [hlen]; omega), hlen, va_up_self, va_up_self, mE_p (by omega)]
        rfl
      · rw [if_neg (by omega), mX_x, List.getElem?_append_left (by rw [hlen]; omega)]
        by_cases hj1 : j = 1
        · subst hj1
          rw [List.getElem?_set_self (by rw [mW_len]; omega), e1, mE_q, e0]
          rfl
        · rw [List.getElem?_set_ne (Ne.symm hj1), mW_get hj, va_up_ne _ _ hj2, va_up_ne _ _ hj2]
          by_cases hj0 : j = 0
          · subst hj0
            rw [mE_r, mE_r, e1]
          · rw [mE_p (by omega), mE_p (by omega)]
  refine ⟨hP.by _ hg, hD.by _ hg (fun i j hi hj h => ?_), hS⟩
  rw [List.length_append, mW_len, mW_len] at hi hj
  split at h <;> split at h <;> omega
