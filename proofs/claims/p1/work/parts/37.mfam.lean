theorem mX6_family_0 : (Cond.fieldLink RX6 27 "SaltRowModel" "families" "Ljava/util/ArrayList;") ∈ wsX6_family := by decide +kernel
theorem iX6_family_X6 : ∀ w ∈ wsX60, w ∈ wsX6_family := by decide +kernel
theorem mX6_family_2 : (Cond.arrayClass .int) ∈ wsX6_family := by decide +kernel
set_option maxHeartbeats 4000000 in
set_option maxRecDepth 100000 in
/-- family() of a new object -/
theorem zX6_family (l : Launch) (D : va_G) (a : Nat → Nat) (cs : Nat → ClassId) (N : Nat) (hN : 12 ≤ N) (σ : sS) (h0 : σ 11 2 = 0) (sz : Nat) : Met l yX6_family wsX6_family ({ frames := 5, cells := 2, slots := 18, locals := 112 }) (va_Pc [.ref (a 10)] (fun U => mB D a cs N σ sz U ∧ mEd (a 12) (mA a N sz) U U.heap ∧ mAd U)) (va_Qi (fun r (_ : Unit) => r = 0) (fun _ t => va_P D vwCl [(a 10, .inr (kX6, mOv (a 0) (a 11) (m_thr σ 0 10)))] t.heap) (mA a N sz)) 2 18 (mA a N sz) := by
  refine Met.ofW (cc := cX6_family) (maxL := 1) (ret := (some .int)) (by decide) rfl ?_
  intro p e s m args below meth c s₁ B hml hv
  obtain ⟨rfl, ⟨hsz, hv2⟩, hE, hO⟩ := hv
  have hv3 : mB D a cs N σ sz s := ⟨hsz, hv2⟩
  subst hsz
  have hw := mH_start hv3
  obtain ⟨-, -, hK, -, hN2⟩ := hv3
  have hx := B.exec
  have hb := B.bytes
  have hr := B.returns
  have hts := atoms_spec (ws := wsX6_family) B.pre
  have hown : s.vm.findClass RX6 = some m.cls := findClass_of_methodNamed B.named
  have hlocks := B.notSynchronized
  have hA : ∀ q : Nat, s.heap.size ≤ q → mA a N s.heap.size q := mA_new
  have hl := lv_entry ([.ref (a 10)]) (n := 1) (Nat.le_of_ble_eq_true rfl)
  rw [lg_entry_eq]
  generalize (lg_sl ([.ref (a 10)]) ++ List.replicate (1 - (lg_sl ([.ref (a 10)])).length) Slot.unset).toArray = ls at hl ⊢
  have hl : lv_has ls 1 [(0, .ref (a 10))] := hl
  refine lv_aload_n hx hb dX6_family_0 rfl (lv_at hl 0 rfl) ?_
  refine lv_aload_n hx hb dX6_family_1 rfl (lv_at hl 0 rfl) ?_
  refine mg_o2 hx hb hts iX6_family_X6 hown hK hw (by omega) (hts _ mX6_family_0) dX6_family_2 ?_
  refine mc_i (mr_V (i := 11) (As := []) (rest := [.ref (a 10)]) ⟨hx, hb, hml, hown, hts⟩ (zJL_size l D a cs N (by omega) _ _) (cwV 0 hts gX6_family_Jx4a65c_size_8abf5 rfl rfl rfl (by decide +kernel) ⟨Nat.le_of_ble_eq_true rfl, Nat.le_of_ble_eq_true rfl⟩) hK hN2 hw (by omega) mE_l kcJL rfl hl.1 (Nat.le_of_ble_eq_true rfl) dX6_family_5 ⟨Nat.le_of_ble_eq_true rfl, Nat.le_of_ble_eq_true rfl⟩) hw hA (fun H locs hw => ?_)
  refine lv_bipush (v := 6) hx hb dX6_family_8 (by decide) ?_
  refine lv_icmp_ne (tgt := 17) hx hb dX6_family_10 (by decide) (fun c1 => ?_) (fun c1 => absurd c1 (by rw [h0]; decide))
  refine lv_iconst (v := 0) hx hb dX6_family_17 (by decide) ?_
  refine lv_iconst (v := 1) hx hb dX6_family_18 (by decide) ?_
  refine mc_i (mr_V (i := 10) (As := [.int 0, .int 1]) (rest := []) ⟨hx, hb, hml, hown, hts⟩ (zX6_start0 l D a cs N (by omega) _ 0 1 rfl  _) (cwV 2 hts gX6_family_X6_start rfl rfl rfl (by decide +kernel) ⟨Nat.le_of_ble_eq_true rfl, Nat.le_of_ble_eq_true rfl⟩) hK hN2 hw (by omega) mE_o kcX6 rfl hl.1 (Nat.le_of_ble_eq_true rfl) dX6_family_19 ⟨Nat.le_of_ble_eq_true rfl, Nat.le_of_ble_eq_true rfl⟩) hw hA (fun H locs hw => ?_)
  obtain ⟨τ2, eτ2⟩ : ∃ zz : sS, m_thr σ 0 = zz := ⟨_, rfl⟩
  rw [eτ2] at hw
  refine lv_if_eq (tgt := 27) hx hb dX6_family_22 (by decide) (fun c3 => ?_) (fun c3 => absurd (by decide) c3)
  refine lv_aload_n hx hb dX6_family_27 rfl (lv_at hl 0 rfl) ?_
  refine mg_o2 hx hb hts iX6_family_X6 hown hK hw (by omega) (hts _ mX6_family_0) dX6_family_28 ?_
  refine lv_bipush (v := 8) hx hb dX6_family_31 (by decide) ?_
  refine mx_new (n := 8) hx hb (hts _ mX6_family_2) hK hw hA (by decide) rfl (Nat.le_of_ble_eq_true rfl) (Nat.le_of_ble_eq_true rfl) dX6_family_33 (fun q4 H hw => ?_)
  have hL0 : τ2 11 2 = 0 := by subst eτ2; exact h0
  have hPc : va_P D vwCl (mLn (a 11) (a 12) q4 (cs 1) (τ2 11)) H := (mP_two (i := 11) (j := 0) (q := q4) (ex := .inl (cs 1, 8, .inl (fun _ => 0))) hw (by omega) rfl).sub [1, 0] rfl
  have hDc : va_D (mA a N s.heap.size) (mLn (a 11) (a 12) q4 (cs 1) (τ2 11)) := hw.2.1.by (fun k => if k = 0 then 11 else N + 0) (fun k r hk => by
    have hk0 : k < 2 := (List.getElem?_eq_some_iff.mp hk).1
    rcases (show k = 0 ∨ k = 1 by omega) with rfl | rfl
    · cases hk
      rw [if_pos rfl, mX_get (by omega), mE_l]
    · cases hk
      rw [if_neg (by omega), mX_x]
      rfl) (fun i j hi hj h => by
    have hi : i < 2 := hi
    have hj : j < 2 := hj
    split at h <;> split at h <;> omega)
  have hFc : ∀ q, va_A (mLn (a 11) (a 12) q4 (cs 1) (τ2 11)) H.size q → mA a N s.heap.size q := by
    rintro q (⟨j, e, hj⟩ | h)
    · exact hDc.2 j _ hj
    · exact hA q (Nat.le_trans hw.2.2.1 h)
  have hE2 := hE.kept (H1 := H) (fun a h1 h2 => hw.2.2.2.1 a h1 h2)
  refine va_calli (va_runV (As := [.ref q4]) (rest := []) ⟨hx, hb, hml, hown, hts⟩ (zJL_add l D (a 11) (a 12) q4 _ (cs 1) (τ2 11) hL0) (cwV 1 hts gX6_family_Jx4a65c_add_9ea2d rfl rfl rfl (by decide +kernel) ⟨Nat.le_of_ble_eq_true rfl, Nat.le_of_ble_eq_true rfl⟩) ⟨fun v U g mk z => by obtain ⟨z0, z1, zP, zK, zD, zE, zO⟩ := z; exact ⟨z0, z1, zP, va_K.moved (u := U) (U := U.calling g mk v) (Vm.Alike.refl U.vm) zK, zD, mEd.moved (u := U) (U := U.calling g mk v) (Vm.Alike.refl U.vm) zE, mAd.moved (u := U) (U := U.calling g mk v) (Vm.Alike.refl U.vm) zO⟩, va_recv hK hPc (ci := kJL) (q0 := 0) kcJL rfl, fun U hU hW => ⟨rfl, by rw [hU], by rw [hU]; exact hPc, va_K.moved hW.alike (hK.sub (tys' := [(cs 1, .int)]) [1] rfl), hDc.weaken (fun _ _ _ _ => trivial), by rw [hU]; exact (mEd.moved hW.alike hE2).narrow hFc, mAd.moved hW.alike hO⟩⟩ rfl rfl hl.1 rfl (lv_room (Nat.le_of_ble_eq_true rfl)) dX6_family_35 ⟨Nat.le_of_ble_eq_true rfl, Nat.le_of_ble_eq_true rfl⟩) hw.2.2 (fun q _ h => hFc q h) (fun q h => hFc q h) (fun r u t H1 locs ht hvm hr1 hB hz1 hk1 hS => ?_)
  obtain ⟨hP1, hD1⟩ := hB
  rw [ht] at hP1
  have hO1 : va_P D vwCl [(a 10, .inr (kX6, mOv (a 0) (a 11) (τ2 10)))] H1 := (mP_one (i := 10) hw (by omega)).kept (fun k x hk => by
    have hk0 : k < 1 := (List.getElem?_eq_some_iff.mp hk).1
    rw [show k = 0 by omega] at hk
    cases hk
    refine hk1 _ (hw.1 10 _ (mX_get (by omega))).lt ?_
    rintro (⟨j, e, hj⟩ | h)
    · have hj0 : j < 2 := (List.getElem?_eq_some_iff.mp hj).1
      rcases (show j = 0 ∨ j = 1 by omega) with rfl | rfl
      · have e2 : a 11 = a 10 := congrArg Prod.fst (Option.some.inj hj)
        have := hw.2.1.1 11 10 _ _ (mX_get (by omega)) (mX_get (by omega)) e2
        omega
      · have e2 : q4 = a 10 := congrArg Prod.fst (Option.some.inj hj)
        have := hw.2.1.1 (N + 0) 10 (q4, .inl (cs 1, 8, .inl (fun _ => 0))) _ (by rw [mX_x]; rfl) (mX_get (by omega)) e2
        omega
    · exact absurd (hw.1 10 _ (mX_get (by omega))).lt (Nat.not_lt.mpr h))
  have hP := hO1.app hP1
  have hown := hown
  refine lv_pop hx hb dX6_family_38 rfl ?_
  refine lv_aload_n hx hb dX6_family_39 rfl (lv_at hl 0 rfl) ?_
  refine va_get (D := D) (ci := kX6) (v := .ref (a 11)) (C := RX6) (T := TX6) (N := 11) hx hb hts iX6_family_X6 hown hK hP 0 rfl kcX6 2 (by decide) (hts _ mX6_family_0) (fun _ h9 => h9) rfl dX6_family_40 ?_
  refine va_calli (va_runV (As := []) (rest := []) ⟨hx, hb, hml, hown, hts⟩ (zJL_size1 l D (a 11) u.1 _ u.2 1) (cwV 0 hts gX6_family_Jx4a65c_size_8abf5 rfl rfl rfl (by decide +kernel) ⟨Nat.le_of_ble_eq_true rfl, Nat.le_of_ble_eq_true rfl⟩) ⟨fun v U g mk z => by obtain ⟨z0, z1, zP, zK⟩ := z; exact ⟨z0, z1, zP, va_K.moved (u := U) (U := U.calling g mk v) (Vm.Alike.refl U.vm) zK⟩, va_recv hK hP1 (ci := kJL) (q0 := 0) kcJL rfl, fun U hU hW => ⟨rfl, by rw [hU], by rw [hU]; exact hP1, va_K.moved hW.alike (hK.sub (tys' := []) [] rfl)⟩⟩ rfl rfl hl.1 rfl (lv_room (Nat.le_of_ble_eq_true rfl)) dX6_family_43 ⟨Nat.le_of_ble_eq_true rfl, Nat.le_of_ble_eq_true rfl⟩) hS (fun q h1 h2 => absurd h1 (Nat.not_lt.mpr h2)) (fun q h => hA q (Nat.le_trans hS.1 h)) (fun r2 _ t2 H2 locs ht2 hvm2 hr2 _ hz2 hk2 hS => ?_)
  subst hr2
  have hO2 := hO1.kept (H1 := H2) (fun k q hq => hk2 q.1 (hO1 k q hq).lt (Nat.not_le.mpr (hO1 k q hq).lt))
  refine lv_iconst (v := 1) hx hb dX6_family_46 (by decide) ?_
  refine lv_isub hx hb dX6_family_47 ?_
  exact W.iret hx hb hr (fun t3 ht3 hW => ⟨⟨_, (), rfl, rfl, by subst eτ2; subst ht3; exact hO2⟩, hS.F ht3⟩) hS.2.2 dX6_family_48 hlocks
