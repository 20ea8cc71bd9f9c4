/-! The reference copies a row. -/
theorem mX5_c_k : Cond.classLink RX5 12 RX5 ∈ wsX5_copy := by decide +kernel
theorem mX5_c_n : Cond.instantiable RX5 3 ∈ wsX5_copy := by decide +kernel
theorem mX5_c_z : Cond.initialized RX5 ∈ wsX5_copy := by decide +kernel
theorem mX5_c_m : Cond.methodLink RX5 18 yX5_init ∈ wsX5_copy := by decide +kernel
theorem mX5_c_y : Cond.instanceMethod yX5_init ∈ wsX5_copy := by decide +kernel
theorem mX5_c_f : Cond.fieldLink RX5 11 "SaltRowModel$Row" "ponds" "[LSaltRowModel$Pond;" ∈ wsX5_copy := by decide +kernel
theorem mX5_c_d : Cond.fieldLink RX5 23 "SaltRowModel$Row" "day" "I" ∈ wsX5_copy := by decide +kernel
theorem iX5_c_X5 : ∀ w ∈ wsX50, w ∈ wsX5_copy := by decide +kernel
def g_cp (σ : sS) : Nat → Nat → sS → sS
  | 0, _, τ => τ
  | n + 1, k, τ => g_cp σ n (k + 1) (va_up τ (2 + k) (upd (σ (2 + k)) 10 (-1)))
/-- a row's copy: its ponds without their harvests, its day -/
def g_copy (σ : sS) : sS := va_up (g_cp σ 8 0 m_row0) 0 (upd (g_cp σ 8 0 m_row0 0) 1 (σ 0 1))
/-- the booleans of the reference's ponds are 0 or 1 -/
def mZ (σ : sS) : Prop := ∀ k, k < 8 → (σ (2 + k) 8 = 0 ∨ σ (2 + k) 8 = 1) ∧ (σ (2 + k) 9 = 0 ∨ σ (2 + k) 9 = 1)
def mCQ (D : va_G) (a : Nat → Nat) (cs : Nat → ClassId) (N : Nat) (σ : sS) (sz : Nat) : Array Value → State → Outcome → State → Prop := va_Qr (fun (_ : Nat → Nat) => True) (fun u r t => r = u 0 ∧ va_P D vwCl (mW N a cs σ ++ mW 10 u cs (g_copy σ)) t.heap ∧ va_D (mA a N sz) (mW N a cs σ ++ mW 10 u cs (g_copy σ))) (mA a N sz)
set_option maxHeartbeats 4000000 in
set_option maxRecDepth 100000 in
/-- copy() of a row: eighteen cells come, eight of them for nothing -/
theorem zX5_copy (l : Launch) (D : va_G) (a : Nat → Nat) (cs : Nat → ClassId) (N : Nat) (hN : 10 ≤ N) (σ : sS) (hz : mZ σ) (sz : Nat) : Met l yX5_copy wsX5_copy ({ frames := 3, cells := 18, slots := 187, locals := 53 }) (va_Pc [.ref (a 0)] (mB D a cs N σ sz)) (mCQ D a cs N σ sz) 18 187 (mA a N sz) := by
  refine Met.ofW (cc := cX5_copy) (maxL := 3) (ret := (some (.object "SaltRowModel$Row"))) (by decide) rfl ?_
  intro p e s m args below meth c s₁ B hml hv
  obtain ⟨rfl, hsz, hv2⟩ := hv
  have hv3 : mB D a cs N σ sz s := ⟨hsz, hv2⟩
  subst hsz
  have hw := mH_start hv3
  obtain ⟨-, -, hK, -, hN2⟩ := hv3
  have hx := B.exec
  have hb := B.bytes
  have hr := B.returns
  have hts := atoms_spec (ws := wsX5_copy) B.pre
  have hown : s.vm.findClass RX5 = some m.cls := findClass_of_methodNamed B.named
  have hlocks := B.notSynchronized
  have hA : ∀ q : Nat, s.heap.size ≤ q → mA a N s.heap.size q := mA_new
  have hl := lv_entry ([.ref (a 0)]) (n := 3) (Nat.le_of_ble_eq_true rfl)
  rw [lg_entry_eq]
  generalize (lg_sl ([.ref (a 0)]) ++ List.replicate (3 - (lg_sl ([.ref (a 0)])).length) Slot.unset).toArray = ls at hl ⊢
  have hl : lv_has ls 3 [(0, .ref (a 0))] := hl
  refine va_new (ci := kX5) (fs := [.null, .int 0, .int 0]) (C := RX5) (T := TX5) (N := 3) hx hb hts iX5_c_X5 tyX5 tyX5_ok hown (hts _ mX5_c_k) (hts _ mX5_c_n) (hts _ mX5_c_z) hK hw.1 hw.2.1 hw.2.2 hA kcX5 (fun j hj => by rcases (show j = 0 ∨ j = 1 ∨ j = 2 by omega) with rfl | rfl | rfl <;> rfl) (Nat.le_of_ble_eq_true rfl) (Nat.le_of_ble_eq_true rfl) dX5_copy_0 (fun r H hP hD hS => ?_)
  rw [List.append_assoc] at hP hD
  have hw : mH D a cs N (mA a N s.heap.size) s.heap σ (mR0 r) H [] := ⟨hP, hD, hS⟩
  refine lv_dup hx hb dX5_copy_3 rfl ?_
  have hPc := mP_suf hw.1
  have hDc := mD_suf hw.2.1
  have hFc := mP_free hw hA
  refine va_callv (va_runI (As := []) (rest := [.ref r]) ⟨hx, hb, hml, hown, hts⟩ (zX5_init l D r H.size) (cwI 0 hts gX5_copy_X5_init rfl rfl rfl (hts _ mX5_c_z) (hts _ mX5_c_m) (hts _ mX5_c_y) rfl (by decide +kernel) ⟨Nat.le_of_ble_eq_true rfl, Nat.le_of_ble_eq_true rfl⟩) ⟨fun v U g mk z => by obtain ⟨z0, z1, zP, zK, zD, zN⟩ := z; exact ⟨z0, z1, zP, va_K.moved (u := U) (U := U.calling g mk v) (Vm.Alike.refl U.vm) zK, zD, mN_same (u := U) (U := U.calling g mk v) rfl zN⟩, fun U hU hW => ⟨rfl, by rw [hU], by rw [hU]; exact hPc, va_K.moved hW.alike (hK.sub (tys' := []) [] rfl), hDc.weaken (fun _ _ _ _ => trivial), mN_warm hW hN2⟩⟩ rfl rfl hl.1 rfl (lv_room (Nat.le_of_ble_eq_true rfl)) dX5_copy_4 ⟨Nat.le_of_ble_eq_true rfl, Nat.le_of_ble_eq_true rfl⟩) hw.2.2 (fun q _ h => hFc q h) hFc (fun u t H1 locs ht hvm hu hB hz1 hk1 hS => ?_)
  obtain ⟨q, cA, L⟩ := u
  obtain ⟨hP1, hK1, hD1⟩ := hB
  rw [ht] at hP1
  have hK1 := va_K.moved hvm.symm hK1
  have hcA : cA = cs 0 := va_K_one (i := 0) (j := 0) hK1 hK rfl rfl
  subst hcA
  have hL : L.length = 8 := hu
  obtain ⟨u, hu0, hPu, hfst⟩ := mW_made hL hP1
  have hD1u := va_D_fst hD1 hfst.symm
  have hwj := mH_join hw hA hk1 hPu hD1u hS
  clear hP1 hD1 hPu hD1u hfst hw hPc hDc hFc
  subst hu0
  have hw := hwj
  refine lv_astore_n (lv' := [(1, .ref (u 0)), (0, .ref (a 0))]) hx hb dX5_copy_7 rfl hl (by decide) rfl (fun ls hl => ?_)
  refine lv_iconst (v := 0) hx hb dX5_copy_8 (by decide) ?_
  refine lv_istore_n (lv' := [(2, .int 0), (1, .ref (u 0)), (0, .ref (a 0))]) hx hb dX5_copy_9 rfl hl (by decide) rfl (fun ls hl => ?_)
  have loop : ∀ (n k : Nat) (u : Nat → Nat) (τ : sS) (H : Heap) (locs : List Loc) (ls : Array Slot), k + n = 8 → mH D a cs N (mA a N s.heap.size) s.heap σ (mW 10 u cs τ) H locs → lv_has ls 3 [(0, .ref (a 0)), (1, .ref (u 0)), (2, .int (nI k))] → va_up (g_cp σ n k τ) 0 (upd (g_cp σ n k τ 0) 1 (σ 0 1)) = g_copy σ →
      W p l e { frames := 3, cells := 18, slots := 187, locals := 53 } s m #[.ref (a 0)] below meth c H locs (10 + k) (99 + 11 * k) (MQ below (mCQ D a cs N σ s.heap.size) #[.ref (a 0)] s 18 187 (mA a N s.heap.size)) (F0 m 10 ls []) := by
    intro n
    induction n with
    | zero =>
      intro k u τ H locs ls hn hw hl hg
      refine lv_iload_n hx hb dX5_copy_10 rfl (lv_at hl 2 rfl) ?_
      refine lv_bipush (v := 8) hx hb dX5_copy_11 (by decide) ?_
      refine lv_icmp_ge (tgt := 37) hx hb dX5_copy_13 (by decide) (fun c1 => ?_) (fun c1 => absurd (by rw [show k = 8 by omega]; decide) c1)
      refine lv_aload_n hx hb dX5_copy_37 rfl (lv_at hl 1 rfl) ?_
      refine lv_aload_n hx hb dX5_copy_38 rfl (lv_at hl 0 rfl) ?_
      refine mg_r hx hb hts iX5_c_X5 hown hK hw (by omega) 1 (by decide) (hts _ mX5_c_d) dX5_copy_39 ?_
      have hw2 := mH_swap hw
      refine mp_r hx hb hts iX5_c_X5 hown hK hw2 (by omega) 1 (by decide) (hts _ mX5_c_d) dX5_copy_42 (fun H locs hw2 => ?_)
      have hw := mH_swap hw2
      rw [show va_up τ 0 (upd (τ 0) 1 (σ 0 1)) = g_copy σ from hg] at hw
      refine lv_aload_n hx hb dX5_copy_45 rfl (lv_at hl 1 rfl) ?_
      refine W.widen (k := 18) (n := 187) (by omega) (by omega) ?_
      exact W.aret hx hb hr (Or.inl ⟨_, rfl⟩) (Or.inr ⟨_, rfl⟩) (fun t ht hW => ⟨⟨u, u 0, rfl, trivial, by subst ht; exact ⟨rfl, hw.1, hw.2.1⟩⟩, hw.2.2.F ht⟩) hw.2.2.2.2 dX5_copy_46 hlocks
    | succ n ih =>
      intro k u τ H locs ls hn hw hl hg
      refine lv_iload_n hx hb dX5_copy_10 rfl (lv_at hl 2 rfl) ?_
      refine lv_bipush (v := 8) hx hb dX5_copy_11 (by decide) ?_
      refine lv_icmp_ge (tgt := 37) hx hb dX5_copy_13 (by decide) (fun c1 => absurd c1 (nI_ge (a := k) (b := 8) (by omega) (by decide))) (fun c1 => ?_)
      refine lv_aload_n hx hb dX5_copy_16 rfl (lv_at hl 1 rfl) ?_
      have hw2 := mH_swap hw
      refine mg_rq hx hb hts iX5_c_X5 hown hK hw2 (by omega) (hts _ mX5_c_f) dX5_copy_17 ?_
      refine lv_iload_n hx hb dX5_copy_20 rfl (lv_at hl 2 rfl) ?_
      refine lv_aload_n hx hb dX5_copy_21 rfl (lv_at hl 0 rfl) ?_
      refine mg_rq hx hb hts iX5_c_X5 hown hK hw hN (hts _ mX5_c_f) dX5_copy_22 ?_
      refine lv_iload_n hx hb dX5_copy_25 rfl (lv_at hl 2 rfl) ?_
      refine mg_q (k := k) hx hb hK hw hN (by omega) rfl dX5_copy_26 ?_
      have hEi : mE a cs (2 + k) (σ (2 + k)) = .inr (kX4, mPv (σ (2 + k))) := mE_p (by omega)
      have hPc : va_P D vwCl (m1 (a (2 + k)) (σ (2 + k))) H := hw.1.by (fun _ => 2 + k) (fun i r hi => by
        have hi0 : i < 1 := (List.getElem?_eq_some_iff.mp hi).1
        rw [show i = 0 by omega] at hi
        cases hi
        rw [mX_get (by omega), hEi])
      have hDc : va_D (mA a N s.heap.size) (m1 (a (2 + k)) (σ (2 + k))) := hw.2.1.by (fun _ => 2 + k) (fun i r hi => by
        have hi0 : i < 1 := (List.getElem?_eq_some_iff.mp hi).1
        rw [show i = 0 by omega] at hi
        cases hi
        rw [mX_get (by omega), hEi]) (fun i j hi hj _ => by
          have : i < 1 := hi
          have : j < 1 := hj
          omega)
      have hFc : ∀ q, va_A (m1 (a (2 + k)) (σ (2 + k))) H.size q → mA a N s.heap.size q := by
        rintro q (⟨j, e, hj⟩ | h)
        · exact hDc.2 j _ hj
        · exact hA q (Nat.le_trans hw.2.2.1 h)
      refine va_callr (va_runV (As := []) (rest := [.int (nI k), .ref (u 1)]) ⟨hx, hb, hml, hown, hts⟩ (zX4_copy l D (a (2 + k)) H.size (σ (2 + k)) (hz k (by omega)).1 (hz k (by omega)).2) (cwV 0 hts gX5_copy_X4_copy rfl rfl rfl (by decide +kernel) ⟨Nat.le_of_ble_eq_true rfl, Nat.le_of_ble_eq_true rfl⟩) ⟨fun v U g mk z => by obtain ⟨z0, z1, zP, zK, zD⟩ := z; exact ⟨z0, z1, zP, va_K.moved (u := U) (U := U.calling g mk v) (Vm.Alike.refl U.vm) zK, zD⟩, va_recv hK hPc (ci := kX4) (q0 := 0) kcX4 rfl, fun U hU hW => ⟨rfl, by rw [hU], by rw [hU]; exact hPc, va_K.moved hW.alike (hK.sub (tys' := []) [] rfl), hDc.weaken (fun _ _ _ _ => trivial)⟩⟩ rfl rfl hl.1 rfl (lv_room (Nat.le_of_ble_eq_true rfl)) dX5_copy_27 ⟨by show 10 + k + 1 ≤ 18; omega, by show 99 + 11 * k + 11 ≤ 187; omega⟩) hw.2.2 (fun q _ h => hFc q h) hFc (fun _ x t H1 locs ht hvm _ hB hz1 hk1 hS => ?_)
      obtain ⟨hP1, hD1⟩ := hB
      rw [ht] at hP1
      have hw := mH_one (i := 2 + k) (x := x) (ex := .inr (kX4, mPv (upd (σ (2 + k)) 10 (-1)))) hw hA (by omega) (by rw [hEi]; exact hk1) (by rw [hEi]; exact hP1) (by rw [hEi]; exact hD1) hS
      refine va_astq (r := (RX4, TX4, 11)) (ci := kX4) (vs := mPv (upd (σ (2 + k)) 10 (-1))) (f := fun j => some (u (2 + j))) (n := 8) hx hb hK hw.1 hw.2.1 hw.2.2 (N + 1) 0 (N + 10) (by rw [mX_x, List.getElem?_append_left (by rw [mW_len]; omega), mW_get (by omega), mE_q]; rfl) rfl (by rw [mX_x, List.getElem?_append_right (by rw [mW_len]; omega), mW_len]; rfl) kcX4 (vp_in_nI (by omega) (by omega)) dX5_copy_30 (fun H locs hP hD hS => ?_)
      rw [nI_clamp (by omega)] at hP hD
      have hw := mW_astore (k := k) (by omega) hP hD hS
      refine lv_iinc (v := nI (k + 1)) (lv' := [(2, .int (nI (k + 1))), (0, .ref (a 0)), (1, .ref (u 0))]) hx hb dX5_copy_31 hl (k := 2) rfl (nI_1 k) (by decide) rfl (fun ls hl => ?_)
      refine lv_goto (tgt := 10) hx hb dX5_copy_34 (by decide) ?_
      have e2 : va_up u (2 + k) x 0 = u 0 := va_up_ne _ _ (by omega)
      exact ih (k + 1) (va_up u (2 + k) x) (va_up τ (2 + k) (upd (σ (2 + k)) 10 (-1))) H locs ls (by omega) hw (by rw [e2]; exact lv_sub hl [1, 2, 0] rfl) hg
  exact loop 8 0 u m_row0 H1 locs ls (by decide) hw (lv_sub hl [2, 1, 0] rfl) rfl
