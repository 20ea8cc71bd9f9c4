/-! The law's start: the machine's words, the two new objects, the place of the answer. -/
theorem st_z {b : Nat} {s : State} (hts : ∀ w ∈ lw_tbl, w.before #[Value.ref b] s = true) (hgv : (Jvm.Cond.and given_1 narrow_1).before #[Value.ref b] s = true) : sXf (lA s) s s.heap := by
  have hs := flat_of_before _ hgv
  have hA : ∀ a : Nat, a < s.heap.size → ¬ lA s a := fun _ h => Nat.not_le.mpr h
  have m0 : ∀ w ∈ sXB, w ∈ lw_tbl := by decide +kernel
  have m1 : ∀ q ∈ sXT, Cond.stringRef RX3 q.1 q.2 ∈ lw_tbl := by decide +kernel
  have m2 : ∀ q ∈ sXT, Cond.exactly (.string RX3 q.1) "java/lang/String" ∈ flatC (Jvm.Cond.and given_1 narrow_1) := by decide +kernel
  refine ⟨⟨vx_Zqof (hts _ (by decide +kernel)) (hts _ (by decide +kernel)) (hs _ (by decide +kernel)) hA, vx_Zqof (hts _ (by decide +kernel)) (hts _ (by decide +kernel)) (hs _ (by decide +kernel)) hA⟩, fun w hw => ?_, fun q hq => ?_⟩
  · have hf := sXB_face w hw
    simp only [Bool.and_eq_true] at hf
    exact va_tabs hf.2 rfl (hts w (m0 w hw))
  · obtain ⟨a2, c, cA, kA, q1, -⟩ := Cond.exactly_spec (args := #[Value.ref b]) (first := s) (o := none) (s := s) (idx := []) (hs _ (m2 q hq))
    exact ⟨a2, vk_R.of (A := #[Value.ref b]) (hts _ (m1 q hq)) q1⟩
theorem st_e {b : Nat} {s : State} (hts : ∀ w ∈ lw_tbl, w.before #[Value.ref b] s = true) (hgv : (Jvm.Cond.and given_1 narrow_1).before #[Value.ref b] s = true) : ∃ ed : Nat, mEd ed (lA s) s s.heap := by
  have hs := flat_of_before _ hgv
  have hA : ∀ a : Nat, a < s.heap.size → ¬ lA s a := fun _ h => Nat.not_le.mpr h
  obtain ⟨t, ht, hT⟩ := va_Tof (tm := .static "java/util/ArrayList" "DEFAULTCAPACITY_EMPTY_ELEMENTDATA" "[Ljava/lang/Object;") (ty := .object "java/lang/Object") (N := 0) (f := fun _ => .null) (by decide) (hs _ (by decide +kernel)) (va_eqt (z := 0) (hs _ (by decide +kernel))) (fun j hj => absurd hj (Nat.not_lt_zero j)) hA
  exact ⟨t, va_Zof (hts _ (by decide +kernel)) (hts _ (by decide +kernel)) ht hA, hT⟩
theorem st_a {b : Nat} {s : State} (hts : ∀ w ∈ lw_tbl, w.before #[Value.ref b] s = true) : mAd s :=
  ⟨va_AO.of (hts _ (by decide +kernel)), Cond.castable_spec (args := #[Value.ref b]) (first := s) (o := none) (s := s) (idx := []) (hts (.castable "[I" "java/lang/Object") (by decide +kernel))⟩
theorem st_n {b : Nat} {s : State} (hts : ∀ w ∈ lw_tbl, w.before #[Value.ref b] s = true) : sNA s ∧ mN s := by
  refine ⟨⟨⟨?_, ?_, ?_, ?_, ?_, ?_, ?_, ?_⟩, ?_, ?_⟩, ⟨?_, ?_, ?_, ?_, ?_, ?_⟩⟩
  · exact va_Nw.of rfl (hts _ (by decide +kernel))
  · exact va_Nw.of rfl (hts _ (by decide +kernel))
  · exact va_Nw.of rfl (hts _ (by decide +kernel))
  · exact va_Nw.of rfl (hts _ (by decide +kernel))
  · exact va_Nw.of rfl (hts _ (by decide +kernel))
  · exact va_Nw.of rfl (hts _ (by decide +kernel))
  · exact va_Nw.of rfl (hts _ (by decide +kernel))
  · exact va_Nw.of rfl (hts _ (by decide +kernel))
  · exact va_AO.of (hts _ (by decide +kernel))
  · exact va_AO.of (hts _ (by decide +kernel))
  · exact va_Nw.of rfl (hts _ (by decide +kernel))
  · exact va_Nw.of rfl (hts _ (by decide +kernel))
  · exact va_Nw.of rfl (hts _ (by decide +kernel))
  · exact va_AO.of (hts _ (by decide +kernel))
  · exact va_Nw.of rfl (hts _ (by decide +kernel))
  · exact va_Fw.of (hts _ (by decide +kernel)) (hts _ (by decide +kernel)) (hts _ (by decide +kernel)) (hts _ (by decide +kernel)) (hts _ (by decide +kernel))
theorem st_c {b : Nat} {s : State} (hgv : (Jvm.Cond.and given_1 narrow_1).before #[Value.ref b] s = true) : hNc s := by
  have hs := flat_of_before _ hgv
  exact ⟨va_Nc.of (hs _ (by decide +kernel)), va_Nc.of (hs _ (by decide +kernel)), va_Nc.of (hs _ (by decide +kernel))⟩
theorem st_k {b : Nat} {s : State} (hts : ∀ w ∈ lw_tbl, w.before #[Value.ref b] s = true) : ∃ D : va_G, va_K D vwCl [] s := by
  obtain ⟨cI, iI, kI⟩ := u_known (C := RJx35411) (T := TJx35411) (N := 4) (n := 4) hts inJx35411 (hts _ (by decide +kernel))
  obtain ⟨cL, iL, kL⟩ := u_known (C := RJx4a65c) (T := TJx4a65c) (N := 3) (n := 3) hts inJx4a65c (hts _ (by decide +kernel))
  obtain ⟨c0, i0, k0⟩ := u_known (C := RX0) (T := TX0) (N := 6) (n := 6) hts inX0 (hts _ (by decide +kernel))
  obtain ⟨c1, i1, k1⟩ := u_known (C := RX1) (T := TX1) (N := 12) (n := 12) hts inX1 (hts _ (by decide +kernel))
  obtain ⟨c2, i2, k2⟩ := u_known (C := RX2) (T := TX2) (N := 5) (n := 5) hts inX2 (hts _ (by decide +kernel))
  obtain ⟨c3, i3, k3⟩ := u_known (C := RX3) (T := TX3) (N := 10) (n := 10) hts inX3 (hts _ (by decide +kernel))
  obtain ⟨c4, i4, k4⟩ := u_known (C := RX4) (T := TX4) (N := 11) (n := 11) hts inX4 (hts _ (by decide +kernel))
  obtain ⟨c5, i5, k5⟩ := u_known (C := RX5) (T := TX5) (N := 3) (n := 3) hts inX5 (hts _ (by decide +kernel))
  obtain ⟨c6, i6, k6⟩ := u_known (C := RX6) (T := TX6) (N := 11) (n := 11) hts inX6 (hts _ (by decide +kernel))
  refine ⟨(fun k => [cI, cL, c0, c1, c2, c3, c4, c5, c6].getD k cI, fun k => [iI, iL, i0, i1, i2, i3, i4, i5, i6].getD k iI), fun k q hq => ?_, fun k q h => by simp at h⟩
  match k, hq with
  | 0, hq => cases hq; exact kI
  | 1, hq => cases hq; exact kL
  | 2, hq => cases hq; exact k0
  | 3, hq => cases hq; exact k1
  | 4, hq => cases hq; exact k2
  | 5, hq => cases hq; exact k3
  | 6, hq => cases hq; exact k4
  | 7, hq => cases hq; exact k5
  | 8, hq => cases hq; exact k6
  | k + 9, hq => simp [vwCl] at hq
theorem sP_suf {D : va_G} {a : Nat → Nat} {cs : Nat → ClassId} {σ : sS} {xs : va_W} {H : Heap} (h : va_P D vwCl (sW a cs σ ++ xs) H) : va_P D vwCl xs H := fun k q hk => h (34 + k) q (by
  rw [List.getElem?_append_right (by rw [sW_len]; omega), sW_len, Nat.add_sub_cancel_left]
  exact hk)
theorem sP_pre {D : va_G} {a : Nat → Nat} {cs : Nat → ClassId} {σ : sS} {xs : va_W} {H : Heap} (h : va_P D vwCl (sW a cs σ ++ xs) H) : va_P D vwCl (sW a cs σ) H := fun k q hk => h k q (by
  rw [List.getElem?_append_left (List.getElem?_eq_some_iff.mp hk).1]
  exact hk)
theorem sD_suf {a : Nat → Nat} {cs : Nat → ClassId} {σ : sS} {xs : va_W} {A : Nat → Prop} (h : va_D A (sW a cs σ ++ xs)) : va_D A xs := by
  have hg : ∀ (k : Nat) (q : Nat × va_E), xs[k]? = some q → (sW a cs σ ++ xs)[34 + k]? = some q := fun k q hk => by
    rw [List.getElem?_append_right (by rw [sW_len]; omega), sW_len, Nat.add_sub_cancel_left]
    exact hk
  refine ⟨fun i j x y hx hy hxy => ?_, fun k q hk => h.2 _ q (hg k q hk)⟩
  have := h.1 _ _ x y (hg i x hx) (hg j y hy) hxy
  omega
theorem sD_pre {a : Nat → Nat} {cs : Nat → ClassId} {σ : sS} {xs : va_W} {A : Nat → Prop} (h : va_D A (sW a cs σ ++ xs)) : va_D A (sW a cs σ) := by
  have hg : ∀ (k : Nat) (q : Nat × va_E), (sW a cs σ)[k]? = some q → (sW a cs σ ++ xs)[k]? = some q := fun k q hk => by
    rw [List.getElem?_append_left (List.getElem?_eq_some_iff.mp hk).1]
    exact hk
  exact ⟨fun i j x y hx hy hxy => h.1 i j x y (hg i x hx) (hg j y hy) hxy, fun k q hk => h.2 k q (hg k q hk)⟩
/-- the reference's object is none of the class's cells, nor what is new behind it -/
theorem sO_apart {D : va_G} {a : Nat → Nat} {cs : Nat → ClassId} {σ : sS} {A : Nat → Prop} {h1 : Nat} {H : Heap} (hP : va_P D vwCl (sW a cs σ ++ mO0 h1) H) (hD : va_D A (sW a cs σ ++ mO0 h1)) {k : Nat} {q : Nat × va_E} (hq : (sW a cs σ)[k]? = some q) : q.1 < H.size ∧ ¬ va_A (mO0 h1) H.size q.1 := by
  have hl := (sP_pre hP k q hq).lt
  refine ⟨hl, ?_⟩
  rintro (⟨j, e, hj⟩ | h)
  · have hk : k < 34 := by
      have := (List.getElem?_eq_some_iff.mp hq).1
      rw [sW_len] at this
      exact this
    have := hD.1 k (34 + j) q (q.1, e) (by rw [List.getElem?_append_left (List.getElem?_eq_some_iff.mp hq).1]; exact hq) (by rw [List.getElem?_append_right (by rw [sW_len]; omega), sW_len, Nat.add_sub_cancel_left]; exact hj) rfl
    omega
  · exact absurd hl (Nat.not_lt.mpr h)
set_option maxHeartbeats 4000000 in
set_option maxRecDepth 100000 in
/-- from the entry, for every script of at most 5 ints, the law comes to its end with true -/
theorem whole_start {p : Program} {e : Env} {s : State} {m : MethodId} {below : List Frame} {meth : Method} {c : Code} (l : Launch) (hflags : l.flags = flags0) {b L : Nat} {xs : Nat → Int32} (hL : L ≤ 5) (C0 : lw_At p s m meth c b L xs) : W p l e room_1 s m #[Value.ref b] below meth c s.heap [] 0 0 (lw_Z below #[Value.ref b] s) (entryFrame m ([Value.ref b] : List Value).toArray 9) := by
  obtain ⟨hx, hb, hr, hml, hown0, hts0, hX, hbl, hlocks, hgv⟩ := id C0
  have hst : l.stackTraces = false := by
    unfold Launch.stackTraces
    rw [hflags]
    decide
  have hown : s.vm.findClass RL = some m.cls := hown0
  have hts : ∀ w ∈ wsL_law, w.before #[Value.ref b] s = true := fun w h => hts0 w (wsL_law_in w h)
  have hA : ∀ q : Nat, s.heap.size ≤ q → lA s q := fun _ h => h
  have hz := st_z hts0 hgv
  obtain ⟨ed, hE⟩ := st_e hts0 hgv
  have hAd := st_a hts0
  obtain ⟨hNA, hMN⟩ := st_n hts0
  have hC := st_c hgv
  obtain ⟨D, hK⟩ := st_k hts0
  have hS : va_S (lA s) s.heap s.heap [] := va_S.rf
  have hP : va_P D vwCl [] s.heap := fun k q h => by simp at h
  have hD : va_D (lA s) [] := ⟨fun i j p q h => by simp at h, fun k q h => by simp at h⟩
  have hl := lv_entry ([.ref b]) (n := 9) (Nat.le_of_ble_eq_true rfl)
  rw [lg_entry_eq]
  generalize (lg_sl ([.ref b]) ++ List.replicate (9 - (lg_sl ([.ref b])).length) Slot.unset).toArray = ls at hl ⊢
  have hl : lv_has ls 9 [(0, .ref b)] := hl
  refine va_new (ci := kX3) (fs := [.null, .null, .null, .int 0, .int 0, .int 0, .int 0, .int 0, .int 0, .int 0]) (C := RX3) (T := TX3) (N := 10) hx hb hts0 inX3 tyX3 tyX3_ok hown (hts (.classLink RL 8 RX3) (by decide +kernel)) (hts (.instantiable RX3 10) (by decide +kernel)) (hts (.initialized RX3) (by decide +kernel)) hK hP hD hS hA kcX3 (fun j hj => by rcases (show j = 0 ∨ j = 1 ∨ j = 2 ∨ j = 3 ∨ j = 4 ∨ j = 5 ∨ j = 6 ∨ j = 7 ∨ j = 8 ∨ j = 9 by omega) with rfl | rfl | rfl | rfl | rfl | rfl | rfl | rfl | rfl | rfl <;> rfl) (Nat.le_of_ble_eq_true rfl) (Nat.le_of_ble_eq_true rfl) dL_law_0 (fun h0 H hP hD hS => ?_)
  have hP : va_P D vwCl (sO0 h0) H := hP
  have hD : va_D (lA s) (sO0 h0) := hD
  refine lv_dup hx hb dL_law_3 rfl ?_
  have hF : ∀ q, va_A (sO0 h0) H.size q → lA s q := va_free (wc := sO0 h0) hD hS hA [0] rfl
  refine va_callv (va_runI (As := []) (rest := [.ref h0]) ⟨hx, hb, hml, hown, hts⟩ (zX3_init l D h0 H.size) (cwI 0 hts gL_law_X3_init rfl rfl rfl (hts (.initialized RX3) (by decide +kernel)) (hts (.methodLink RL 89 yX3_init) (by decide +kernel)) (hts (.instanceMethod yX3_init) (by decide +kernel)) rfl (by decide +kernel) ⟨Nat.le_of_ble_eq_true rfl, Nat.le_of_ble_eq_true rfl⟩) ⟨fun v U g mk z => by obtain ⟨z0, z1, zP, zK, zD, zN⟩ := z; exact ⟨z0, z1, zP, va_K.moved (u := U) (U := U.calling g mk v) (Vm.Alike.refl U.vm) zK, zD, sNA_calling zN⟩, fun U hU hW => ⟨rfl, by rw [hU], by rw [hU]; exact hP, va_K.moved hW.alike hK, hD.weaken (fun _ _ _ _ => trivial), sNA_warm hW hNA⟩⟩ rfl rfl hl.1 rfl (lv_room (Nat.le_of_ble_eq_true rfl)) dL_law_4 ⟨Nat.le_of_ble_eq_true rfl, Nat.le_of_ble_eq_true rfl⟩) hS (fun q _ h => hF q h) hF (fun u t H1 locs ht hvm hu hB hz1 hk1 hS => ?_)
  obtain ⟨a, cs⟩ := u
  obtain ⟨hP1, hK1, hD1⟩ := hB
  rw [ht] at hP1
  have hKs : va_K D vwCl (sT cs) s := va_K.moved hvm.symm hK1
  have hDs : va_D (lA s) (sW a cs f_new) := hD1.weaken (fun _ _ _ h => hF _ h)
  have hu : a 0 = h0 := hu
  subst hu
  clear hP hD hF hD1 hK1
  have hP : va_P D vwCl (sW a cs f_new) H1 := hP1
  refine lv_astore_n (lv' := [(1, .ref (a 0)), (0, .ref b)]) hx hb dL_law_7 rfl hl (by decide) rfl (fun ls hl => ?_)
  refine va_new (ci := kX6) (fs := [.int 0, .null, .null, .int 0, .int 0, .int 0, .int 0, .int 0, .int 0, .int 0, .int 0]) (C := RX6) (T := TX6) (N := 11) hx hb hts0 inX6 tyX6 tyX6_ok hown (hts (.classLink RL 90 RX6) (by decide +kernel)) (hts (.instantiable RX6 11) (by decide +kernel)) (hts (.initialized RX6) (by decide +kernel)) hKs hP hDs hS hA kcX6 (fun j hj => by rcases (show j = 0 ∨ j = 1 ∨ j = 2 ∨ j = 3 ∨ j = 4 ∨ j = 5 ∨ j = 6 ∨ j = 7 ∨ j = 8 ∨ j = 9 ∨ j = 10 by omega) with rfl | rfl | rfl | rfl | rfl | rfl | rfl | rfl | rfl | rfl | rfl <;> rfl) (Nat.le_of_ble_eq_true rfl) (Nat.le_of_ble_eq_true rfl) dL_law_8 (fun h1 H hP hD hS => ?_)
  have hP : va_P D vwCl (sW a cs f_new ++ mO0 h1) H := hP
  have hD : va_D (lA s) (sW a cs f_new ++ mO0 h1) := hD
  refine lv_dup hx hb dL_law_11 rfl ?_
  have hPc := sP_suf hP
  have hDc := sD_suf hD
  have hF : ∀ q, va_A (mO0 h1) H.size q → lA s q := by
    rintro q (⟨j, x, hj⟩ | h)
    · exact hDc.2 j _ hj
    · exact Nat.le_trans hS.1 h
  refine va_callv (va_runI (As := []) (rest := [.ref h1]) ⟨hx, hb, hml, hown, hts⟩ (zX6_init l D h1 ed H.size (cs 2)) (cwI 0 hts gL_law_X6_init rfl rfl rfl (hts (.initialized RX6) (by decide +kernel)) (hts (.methodLink RL 92 yX6_init) (by decide +kernel)) (hts (.instanceMethod yX6_init) (by decide +kernel)) rfl (by decide +kernel) ⟨Nat.le_of_ble_eq_true rfl, Nat.le_of_ble_eq_true rfl⟩) ⟨fun v U g mk z => by obtain ⟨z0, z1, zP, zK, zD, zN, zE⟩ := z; exact ⟨z0, z1, zP, va_K.moved (u := U) (U := U.calling g mk v) (Vm.Alike.refl U.vm) zK, zD, mN_same (u := U) (U := U.calling g mk v) rfl zN, mEd.moved (u := U) (U := U.calling g mk v) (Vm.Alike.refl U.vm) zE⟩, fun U hU hW => ⟨rfl, by rw [hU], by rw [hU]; exact hPc, va_K.moved hW.alike (hKs.sub (tys' := [(cs 2, .int)]) [2] rfl), hDc.weaken (fun _ _ _ _ => trivial), mN_warm hW hMN, by rw [hU]; exact mEd.moved hW.alike ((hE.kept (fun x g1 g2 => hS.2.1 x g1 g2)).narrow (fun q h => hF q h))⟩⟩ rfl rfl hl.1 rfl (lv_room (Nat.le_of_ble_eq_true rfl)) dL_law_12 ⟨Nat.le_of_ble_eq_true rfl, Nat.le_of_ble_eq_true rfl⟩) hS (fun q _ h => hF q h) hF (fun u t H1 locs ht hvm hu hB hz1 hk1 hS => ?_)
  obtain ⟨a', cs'⟩ := u
  obtain ⟨hP1, hK1, hD1⟩ := hB
  rw [ht] at hP1
  have hKm : va_K D vwCl (mT cs') s := va_K.moved hvm.symm hK1
  obtain ⟨hu, he, -⟩ := hu
  have hu : a' 10 = h1 := hu
  have he : a' 12 = ed := he
  have hPs : va_P D vwCl (sW a cs f_new) H1 := (sP_pre hP).kept (fun k q hq => hk1 q.1 (sO_apart hP hD hq).1 (sO_apart hP hD hq).2)
  have hPw : va_P D vwCl (mW 12 a' cs' m_row0 ++ sW a cs f_new) H1 := va_P.app hP1 hPs
  have hDw : va_D (lA s) (mW 12 a' cs' m_row0 ++ sW a cs f_new) := va_D.app (hD1.weaken (fun _ _ _ h => hF _ h)) (sD_pre hD) (fun i j x y hx hy hxy => (sO_apart hP hD hy).2 (by rw [← hxy]; exact hD1.2 i x hx))
  subst hu
  clear hPs hP1 hD1 hPc hDc hF hP hD
  refine lv_astore_n (lv' := [(2, .ref (a' 10)), (1, .ref (a 0)), (0, .ref b)]) hx hb dL_law_15 rfl hl (by decide) rfl (fun ls hl => ?_)
  refine lv_iconst (v := 1) hx hb dL_law_16 (by decide) ?_
  refine va_newa (atype := .long) (ty := .long) (N' := 1) (a0 := (1, .inr (.inl (fun _ => 0)))) hx hb (hts0 (.arrayClass .long) (by decide +kernel)) rfl hK hPw hDw hS hA (fun _ => rfl) (by decide) (by decide) (by decide) (Nat.le_of_ble_eq_true rfl) (Nat.le_of_ble_eq_true rfl) dL_law_17 (fun o cJ H hKJ hP hD hS => ?_)
  have hKJ : va_K D vwCl [(cJ, .long)] s := hKJ
  have hw : lW D a cs a' cs' o cJ (fun _ => 0) s H locs := by
    refine ⟨?_, ?_, hS⟩
    · rw [← List.append_assoc]
      exact va_P.swap hP
    · rw [← List.append_assoc]
      exact va_D.swap hD
  refine lv_astore_n (lv' := [(3, .ref o), (2, .ref (a' 10)), (1, .ref (a 0)), (0, .ref b)]) hx hb dL_law_19 rfl hl (by decide) rfl (fun ls hl => ?_)
  refine lv_iconst (v := 0) hx hb dL_law_20 (by decide) ?_
  refine lv_istore (lv' := [(4, .int 0), (3, .ref o), (2, .ref (a' 10)), (1, .ref (a 0)), (0, .ref b)]) hx hb dL_law_21 hl (by decide) rfl (fun ls hl => ?_)
  refine W.widen (k := 47) (n := 402) (Nat.le_of_ble_eq_true rfl) (Nat.le_of_ble_eq_true rfl) ?_
  exact l_loop hst hL C0 ⟨hKs, hKm, hKJ, hNA.1, hMN, hC, hz⟩ hw (lv_sub hl [4, 3, 2, 1, 0] rfl) (by rw [he]; exact hE) hAd
