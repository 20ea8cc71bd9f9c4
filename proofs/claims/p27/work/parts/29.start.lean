/-! The law's loop, and its walk from the entry. -/
theorem nv_pos {B1 B2 B3 : Int} {σ : sS} (h : gI B1 B2 B3 σ) (i : Nat) : 0 ≤ (nv σ i).toInt := by
  have o := h.2.2.2.2.2.2.2.2.1
  match i with
  | 0 => exact Int.le_refl _
  | 1 => exact o 5 (by omega) (by omega)
  | 2 => exact o 6 (by omega) (by omega)
  | 3 => exact o 7 (by omega) (by omega)
  | 4 => exact o 8 (by omega) (by omega)
  | i + 5 => exact o 4 (by omega) (by omega)
set_option maxHeartbeats 4000000 in
set_option maxRecDepth 100000 in
/-- the law's rounds -/
theorem l_loop {p : Program} {e : Env} {s : State} {m : MethodId} {below : List Frame} {meth : Method} {c : Code} {l : Launch} {b L : Nat} {xs : Nat → Int32} (hL : L ≤ 260) (C0 : lw_At p s m meth c b L xs) {D : va_G} {a : Nat → Nat} {cs : Nat → ClassId} {cI : ClassId} (hm : lM D cs cI s) {o : Nat} : ∀ (r k : Nat) (σ : sS) (fl : Nat → Int32) (H : Heap) (locs : List Loc) (ls : Array Slot) (cells slots : Nat), k + r = 22 → lG k σ → (∀ i, i < 6 → (fl i).toInt ≤ (nv σ i).toInt) → cells ≤ 100 + k → slots ≤ 1000 + 6 * k → lH D a cs [(o, .inl (cI, 6, .inl fl))] (lA s) s.heap σ H locs → lv_has ls 9 [(0, .ref b), (1, .ref (a 0)), (2, .ref o), (3, .int (nI k))] → W p l e room_1 s m #[Value.ref b] below meth c H locs cells slots (lw_Z below #[Value.ref b] s) (F0 m 21 ls []) := by
  obtain ⟨hx, hb, -⟩ := id C0
  intro r
  induction r with
  | zero =>
    intro k σ fl H locs ls cells slots hk hG hs h1 h2 hw hl
    refine lv_iload_n hx hb dL_law_21 rfl (lv_at hl 3 rfl) ?_
    refine lv_bipush (v := 22) hx hb dL_law_22 (by decide) ?_
    refine lv_icmp_ge (tgt := 423) hx hb dL_law_24 (by decide) (fun c1 => ?_) (fun c1 => absurd (by rw [show k = 22 by omega]; decide) c1)
    have hf : cells ≤ room_1.cells ∧ slots ≤ room_1.slots := by
      show cells ≤ 625830 ∧ slots ≤ 7224133
      omega
    exact lr_end C0 hm hG.1 hf (by omega) (by omega) hw (lv_sub hl [0, 1] rfl)
  | succ r ih =>
    intro k σ fl H locs ls cells slots hk hG hs h1 h2 hw hl
    have hf : cells + 1 ≤ room_1.cells ∧ slots + 6 ≤ room_1.slots := by
      show cells + 1 ≤ 625830 ∧ slots + 6 ≤ 7224133
      omega
    have hf0 : cells ≤ room_1.cells ∧ slots ≤ room_1.slots := by omega
    refine lr_head hL C0 hm (by omega) hf0 hw hl (fun x q j t H locs ls hq hj ht0 ht1 hw hl => ?_)
    have join : ∀ (τ : sS) (H : Heap) (locs : List Loc), lG (k + 1) τ → gM σ τ → lH D a cs [(o, .inl (cI, 6, .inl fl))] (lA s) s.heap τ H locs → W p l e room_1 s m #[Value.ref b] below meth c H locs cells slots (lw_Z below #[Value.ref b] s) (F0 m 288 ls []) := by
      intro τ H locs hT hM hw
      refine lr_now C0 hm hT.1 hf hw hl (fun n cN g H locs ls hKN hg hw hl => ?_)
      refine lr_sums C0 hm hf hKN hg (fun fl2 H locs ls hs2 hw hl => ?_) 6 0 fl H locs ls (by decide) (fun i hi => Int.le_trans (hs i hi) (nv_mono hM i)) hw hl
      refine lr_twelve C0 hm hf hq hT.1 hw hl (fun H locs ls hw hl => ?_)
      exact ih (k + 1) τ fl2 H locs ls (cells + 1) (slots + 6) (by omega) hT hs2 (by omega) (by omega) (lH_drop hw) hl
    obtain ⟨n, rfl, hn⟩ : ∃ n : Nat, t = nI n ∧ n < 7 := ⟨t.toInt.toNat, nat_of ht0, by omega⟩
    have hk22 : k < 22 := by omega
    rcases (show n = 0 ∨ n = 1 ∨ n = 2 ∨ n = 3 ∨ n = 4 ∨ n = 5 ∨ n = 6 by omega) with rfl | rfl | rfl | rfl | rfl | rfl | rfl
    · refine lv_tableIn (tgt := 108) hx hb dL_law_71 (by decide) (by decide) rfl (by decide) ?_
      exact lr_pass C0 hm hk22 hq hj hG hf0 hw hl join
    · refine lv_tableIn (tgt := 108) hx hb dL_law_71 (by decide) (by decide) rfl (by decide) ?_
      exact lr_pass C0 hm hk22 hq hj hG hf0 hw hl join
    · refine lv_tableIn (tgt := 108) hx hb dL_law_71 (by decide) (by decide) rfl (by decide) ?_
      exact lr_pass C0 hm hk22 hq hj hG hf0 hw hl join
    · refine lv_tableIn (tgt := 177) hx hb dL_law_71 (by decide) (by decide) rfl (by decide) ?_
      exact lr_harvest C0 hm hk22 hq hj hG hf0 hw hl join
    · refine lv_tableIn (tgt := 225) hx hb dL_law_71 (by decide) (by decide) rfl (by decide) ?_
      exact lr_wash C0 hm hk22 hq hj hG hf0 hw hl join
    · refine lv_tableIn (tgt := 245) hx hb dL_law_71 (by decide) (by decide) rfl (by decide) ?_
      exact lr_right C0 hm hk22 hq hj hG hf0 hw hl join
    · refine lv_tableOut (tgt := 274) hx hb dL_law_71 (by decide) (by decide) ?_
      exact lr_skim C0 hm hk22 hq hj hG hf0 hw hl join
set_option maxHeartbeats 4000000 in
set_option maxRecDepth 100000 in
/-- from the entry, for every script of at most 260 ints, the law comes to its end with true -/
theorem whole_start {p : Program} {e : Env} {s : State} {m : MethodId} {below : List Frame} {meth : Method} {c : Code} (l : Launch) (hflags : l.flags = flags0) {b L : Nat} {xs : Nat → Int32} (hL : L ≤ 260) (C0 : lw_At p s m meth c b L xs) : W p l e room_1 s m #[Value.ref b] below meth c s.heap [] 0 0 (lw_Z below #[Value.ref b] s) (entryFrame m ([Value.ref b] : List Value).toArray 9) := by
  obtain ⟨hx, hb, hr, hml, hown0, hts0, hX, hbl, hlocks, hgv⟩ := id C0
  have hown : s.vm.findClass RL = some m.cls := hown0
  have hts : ∀ w ∈ wsL_law, w.before #[Value.ref b] s = true := fun w h => hts0 w (wsL_law_in w h)
  have hA : ∀ q : Nat, s.heap.size ≤ q → lA s q := fun _ h => h
  have hbA : ¬ lA s b := Nat.not_le.mpr hbl
  have hNA := st_n hts0
  obtain ⟨D, hK⟩ := st_k hts0
  have hS : va_S (lA s) s.heap s.heap [] := va_S.rf
  have hP : va_P D vwCl [] s.heap := fun k q h => by simp at h
  have hD : va_D (lA s) [] := ⟨fun i j p q h => by simp at h, fun k q h => by simp at h⟩
  have hl := lv_entry ([.ref b]) (n := 9) (Nat.le_of_ble_eq_true rfl)
  rw [lg_entry_eq]
  generalize (lg_sl ([.ref b]) ++ List.replicate (9 - (lg_sl ([.ref b])).length) Slot.unset).toArray = ls at hl ⊢
  have hl : lv_has ls 9 [(0, .ref b)] := hl
  refine va_new (ci := kX3) (fs := [.null, .null, .null, .int 0, .int 0, .int 0, .int 0, .int 0, .int 0, .int 0]) (C := RX3) (T := TX3) (N := 10) hx hb hts0 inX3 tyX3 tyX3_ok hown (hts (.classLink RL 20 RX3) (by decide +kernel)) (hts (.instantiable RX3 10) (by decide +kernel)) (hts (.initialized RX3) (by decide +kernel)) hK hP hD hS hA kcX3 (fun j hj => by rcases (show j = 0 ∨ j = 1 ∨ j = 2 ∨ j = 3 ∨ j = 4 ∨ j = 5 ∨ j = 6 ∨ j = 7 ∨ j = 8 ∨ j = 9 by omega) with rfl | rfl | rfl | rfl | rfl | rfl | rfl | rfl | rfl | rfl <;> rfl) (Nat.le_of_ble_eq_true rfl) (Nat.le_of_ble_eq_true rfl) dL_law_0 (fun h0 H hP hD hS => ?_)
  have hP : va_P D vwCl (sO0 h0) H := hP
  have hD : va_D (lA s) (sO0 h0) := hD
  refine lv_dup hx hb dL_law_3 rfl ?_
  have hF : ∀ q, va_A (sO0 h0) H.size q → lA s q := va_free (wc := sO0 h0) hD hS hA [0] rfl
  refine va_callv (va_runI (As := []) (rest := [.ref h0]) ⟨hx, hb, hml, hown, hts⟩ (zX3_init l D h0 H.size) (cwI 0 hts gL_law_X3_init rfl rfl rfl (hts (.initialized RX3) (by decide +kernel)) (hts (.methodLink RL 36 yX3_init) (by decide +kernel)) (hts (.instanceMethod yX3_init) (by decide +kernel)) rfl (by decide +kernel) ⟨Nat.le_of_ble_eq_true rfl, Nat.le_of_ble_eq_true rfl⟩) ⟨fun v U g mk z => by obtain ⟨z0, z1, zP, zK, zD, zN⟩ := z; exact ⟨z0, z1, zP, va_K.moved (u := U) (U := U.calling g mk v) (Vm.Alike.refl U.vm) zK, zD, sNA_calling zN⟩, fun U hU hW => ⟨rfl, by rw [hU], by rw [hU]; exact hP, va_K.moved hW.alike hK, hD.weaken (fun _ _ _ _ => trivial), sNA_warm hW hNA⟩⟩ rfl rfl hl.1 rfl (lv_room (Nat.le_of_ble_eq_true rfl)) dL_law_4 ⟨Nat.le_of_ble_eq_true rfl, Nat.le_of_ble_eq_true rfl⟩) hS (fun q _ h => hF q h) hF (fun u t H1 locs ht hvm hu hB hz1 hk1 hS => ?_)
  obtain ⟨a, cs⟩ := u
  obtain ⟨hP1, hK1, hD1⟩ := hB
  rw [ht] at hP1
  have hKs : va_K D vwCl (sT cs) s := va_K.moved hvm.symm hK1
  have hDs : va_D (lA s) (sW a cs f_new) := hD1.weaken (fun _ _ _ h => hF _ h)
  have hu : a 0 = h0 := hu
  subst hu
  clear hP hD hF hD1 hK1
  have hw : sH D a cs (lA s) s.heap f_new H1 locs := ⟨hP1, hDs, hS⟩
  have hab : ∀ i, i < 34 → a i ≠ b := fun i hi e => hbA (by rw [← e]; exact hw.2.1.2 i _ (sW_get hi))
  refine lv_astore_n (lv' := [(1, .ref (a 0)), (0, .ref b)]) hx hb dL_law_7 rfl hl (by decide) rfl (fun ls hl => ?_)
  refine lv_aload_n hx hb dL_law_8 rfl (lv_at hl 0 rfl) ?_
  refine lv_aload_n hx hb dL_law_9 rfl (lv_at hl 1 rfl) ?_
  refine lv_iconst (v := 5) hx hb dL_law_10 (by decide) ?_
  refine va_callv (va_runS (As := [.ref (a 0), .ref b, .int 5]) (rest := []) ⟨hx, hb, hml, hown, hts⟩ (zL_write l D a cs f_new vI_new b L xs (by omega) hab H1.size) (va_cwS 3 hts gL_law_L_write rfl rfl rfl (by decide +kernel) ⟨Nat.le_of_ble_eq_true rfl, Nat.le_of_ble_eq_true rfl⟩) ⟨fun v U g mk z => ⟨z.1, (sB_blind (av := [.ref (a 0), .ref b, .int 5]) v U g mk ⟨z.1, z.2.1⟩).2, z.2.2⟩, fun U hU hW => ⟨rfl, sB_of hKs hNA.1 hw hU hW, wr_cell hw hX hbl hbA hU hW⟩⟩ rfl rfl hl.1 rfl (lv_room (Nat.le_of_ble_eq_true rfl)) dL_law_11 ⟨Nat.le_of_ble_eq_true rfl, Nat.le_of_ble_eq_true rfl⟩) hw.2.2 (fun q _ h => sA_sub hw hA h) (fun q h => sA_sub hw hA h) (fun u t H2 locs ht hvm hu hB _ _ hS => ?_)
  rw [ht] at hB
  have hw : sH D a cs (lA s) s.heap u H2 locs := sH_call hw hB hS
  have hI : gI 0 0 0 u := vI_gI hu
  refine lv_bipush (v := 6) hx hb dL_law_14 (by decide) ?_
  refine va_newa (atype := .int) (ty := .int) (N' := 6) (a0 := (6, .inl (fun _ => 0))) hx hb (hts0 (.arrayClass .int) (by decide +kernel)) rfl hK hw.1 hw.2.1 hw.2.2 hA (fun _ => rfl) (by decide) (by decide) (by decide) (Nat.le_of_ble_eq_true rfl) (Nat.le_of_ble_eq_true rfl) dL_law_16 (fun o cI H hKI hP hD hS => ?_)
  have hKI : va_K D vwCl [(cI, .int)] s := hKI
  refine lv_astore_n (lv' := [(2, .ref o), (1, .ref (a 0)), (0, .ref b)]) hx hb dL_law_18 rfl hl (by decide) rfl (fun ls hl => ?_)
  refine lv_iconst (v := nI 0) hx hb dL_law_19 (by decide) ?_
  refine lv_istore_n (lv' := [(3, .int (nI 0)), (2, .ref o), (1, .ref (a 0)), (0, .ref b)]) hx hb dL_law_20 rfl hl (by decide) rfl (fun ls hl => ?_)
  refine l_loop hL C0 ⟨hKs, hKI, hNA.1⟩ 22 0 u (fun _ => 0) H locs ls _ _ (by decide) ⟨gI_mono hI (by decide) (by decide) (by decide), ?_⟩ (fun i _ => nv_pos hI i) (by decide) (by decide) ⟨hP, hD, hS⟩ (lv_sub hl [3, 2, 1, 0] rfl)
  rw [hu.2.1 1]
  decide
