/-! The law's loop: its head, what it looks at, the sums, its end. -/
set_option maxHeartbeats 4000000 in
set_option maxRecDepth 100000 in
/-- a round's numbers -/
theorem lr_head {p : Program} {e : Env} {s : State} {m : MethodId} {below : List Frame} {meth : Method} {c : Code} {l : Launch} {b L : Nat} {xs : Nat → Int32} (hL : L ≤ 260) (C0 : lw_At p s m meth c b L xs) {D : va_G} {a : Nat → Nat} {cs : Nat → ClassId} {cI : ClassId} (hm : lM D cs cI s) {w : va_W} {σ : sS} {H : Heap} {locs : List Loc} {cells slots : Nat} {Q : State → Prop} {ls : Array Slot} {o k : Nat} (hk : k < 22) (hf : cells ≤ room_1.cells ∧ slots ≤ room_1.slots) (hw : lH D a cs w (lA s) s.heap σ H locs) (hl : lv_has ls 9 [(0, .ref b), (1, .ref (a 0)), (2, .ref o), (3, .int (nI k))])
    (kk : ∀ (x : Int32) (q j : Nat) (t : Int32) (H : Heap) (locs : List Loc) (ls : Array Slot), q < 3 → j < 3 → 0 ≤ t.toInt → t.toInt < 7 → lH D a cs w (lA s) s.heap σ H locs → lv_has ls 9 [(0, .ref b), (1, .ref (a 0)), (2, .ref o), (3, .int (nI k)), (4, .int x), (5, .int (nI (5 + q))), (6, .int (nI j))] → W p l e room_1 s m #[Value.ref b] below meth c H locs cells slots Q (F0 m 71 ls [.int t])) : W p l e room_1 s m #[Value.ref b] below meth c H locs cells slots Q (F0 m 21 ls []) := by
  obtain ⟨hx, hb, hr, hml, hown0, hts0, hX, hbl, hlocks, hgv⟩ := id C0
  have hown : s.vm.findClass RL = some m.cls := hown0
  have hts : ∀ w ∈ wsL_law, w.before #[Value.ref b] s = true := fun w h => hts0 w (wsL_law_in w h)
  obtain ⟨hK, -, hN⟩ := id hm
  have hA : ∀ q : Nat, s.heap.size ≤ q → lA s q := fun _ h => h
  refine lv_iload_n hx hb dL_law_21 rfl (lv_at hl 3 rfl) ?_
  refine lv_bipush (v := 22) hx hb dL_law_22 (by decide) ?_
  refine lv_icmp_ge (tgt := 423) hx hb dL_law_24 (by decide) (fun c1 => absurd c1 (nI_ge (a := k) (b := 22) (by omega) (by decide))) (fun c1 => ?_)
  refine lv_aload_n hx hb dL_law_27 rfl (lv_at hl 0 rfl) ?_
  refine lv_iload_n hx hb dL_law_28 rfl (lv_at hl 3 rfl) ?_
  refine lv_bipush (v := 16) hx hb dL_law_29 (by decide) ?_
  refine lv_irem hx hb dL_law_31 (by decide) ?_
  refine w_topE (v := nI (k % 16)) (rem16 k hk) ?_
  refine l_cl hL C0 (by omega) hw hl.1 (Nat.le_of_ble_eq_true rfl) dL_law_32 hf (fun r H locs hw => ?_)
  refine lv_bipush (v := 29) hx hb dL_law_35 (by decide) ?_
  refine lv_iload_n hx hb dL_law_37 rfl (lv_at hl 3 rfl) ?_
  refine lv_imul hx hb dL_law_38 ?_
  refine lv_iadd hx hb dL_law_39 ?_
  refine lv_topi (fun x ex => ?_)
  clear ex
  refine lv_istore (lv' := [(4, .int x), (0, .ref b), (1, .ref (a 0)), (2, .ref o), (3, .int (nI k))]) hx hb dL_law_40 hl (by decide) rfl (fun ls hl => ?_)
  refine lv_iconst (v := 5) hx hb dL_law_42 (by decide) ?_
  refine lv_iload hx hb dL_law_43 (lv_at hl 0 rfl) ?_
  refine lv_iconst (v := 1) hx hb dL_law_45 (by decide) ?_
  refine lv_ishr hx hb dL_law_46 ?_
  refine lv_iconst (v := 3) hx hb dL_law_47 (by decide) ?_
  refine l_bl (n := 3) C0 (by decide) hw hl.1 (Nat.le_of_ble_eq_true rfl) dL_law_48 hf (fun d H locs hd0 hd1 hw => ?_)
  obtain ⟨q, rfl, hq⟩ : ∃ n : Nat, d = nI n ∧ n < 3 := ⟨d.toInt.toNat, nat_of hd0, by rw [show (3 : Int32).toInt = 3 from rfl] at hd1; omega⟩
  refine lv_iadd hx hb dL_law_51 ?_
  refine w_topE (v := nI (5 + q)) (by rw [← nI_add 5 q]; rfl) ?_
  refine lv_istore (lv' := [(5, .int (nI (5 + q))), (4, .int x), (0, .ref b), (1, .ref (a 0)), (2, .ref o), (3, .int (nI k))]) hx hb dL_law_52 hl (by decide) rfl (fun ls hl => ?_)
  refine lv_iload hx hb dL_law_54 (lv_at hl 1 rfl) ?_
  refine lv_iconst (v := 2) hx hb dL_law_56 (by decide) ?_
  refine lv_ishr hx hb dL_law_57 ?_
  refine lv_iconst (v := 3) hx hb dL_law_58 (by decide) ?_
  refine l_bl (n := 3) C0 (by decide) hw hl.1 (Nat.le_of_ble_eq_true rfl) dL_law_59 hf (fun d H locs hj0 hj1 hw => ?_)
  obtain ⟨j, rfl, hj⟩ : ∃ n : Nat, d = nI n ∧ n < 3 := ⟨d.toInt.toNat, nat_of hj0, by rw [show (3 : Int32).toInt = 3 from rfl] at hj1; omega⟩
  refine lv_istore (lv' := [(6, .int (nI j)), (5, .int (nI (5 + q))), (4, .int x), (0, .ref b), (1, .ref (a 0)), (2, .ref o), (3, .int (nI k))]) hx hb dL_law_62 hl (by decide) rfl (fun ls hl => ?_)
  refine lv_iload hx hb dL_law_64 (lv_at hl 2 rfl) ?_
  refine lv_bipush (v := 7) hx hb dL_law_66 (by decide) ?_
  refine l_bl (n := 7) C0 (by decide) hw hl.1 (Nat.le_of_ble_eq_true rfl) dL_law_68 hf (fun t H locs ht0 ht1 hw => ?_)
  exact kk x q j t H locs ls hq hj ht0 ht1 hw (lv_sub hl [3, 4, 5, 6, 2, 1, 0] rfl)
set_option maxHeartbeats 4000000 in
set_option maxRecDepth 100000 in
/-- what the law looks at, in an array of its own -/
theorem lr_now {p : Program} {e : Env} {s : State} {m : MethodId} {below : List Frame} {meth : Method} {c : Code} {l : Launch} {b L : Nat} {xs : Nat → Int32} (C0 : lw_At p s m meth c b L xs) {D : va_G} {a : Nat → Nat} {cs : Nat → ClassId} {cI : ClassId} (hm : lM D cs cI s) {σ : sS} {fl : Nat → Int32} {H : Heap} {locs : List Loc} {cells slots : Nat} {Q : State → Prop} {ls : Array Slot} {o k : Nat} {q j : Nat} {x : Int32} {B1 B2 B3 : Int} (hI : gI B1 B2 B3 σ) (hf : cells + 1 ≤ room_1.cells ∧ slots + 6 ≤ room_1.slots) (hw : lH D a cs [(o, .inl (cI, 6, .inl fl))] (lA s) s.heap σ H locs) (hl : lv_has ls 9 [(0, .ref b), (1, .ref (a 0)), (2, .ref o), (3, .int (nI k)), (4, .int x), (5, .int (nI (5 + q))), (6, .int (nI j))])
    (kk : ∀ (n : Nat) (cN : ClassId) (g : Nat → Int32) (H : Heap) (locs : List Loc) (ls : Array Slot), va_K D vwCl [(cN, .int)] s → (∀ i, i < 6 → g i = nv σ i) → lH D a cs [(o, .inl (cI, 6, .inl fl)), (n, .inl (cN, 6, .inl g))] (lA s) s.heap σ H locs → lv_has ls 9 [(0, .ref b), (1, .ref (a 0)), (2, .ref o), (3, .int (nI k)), (4, .int x), (5, .int (nI (5 + q))), (6, .int (nI j)), (7, .ref n), (8, .int (nI 0))] → W p l e room_1 s m #[Value.ref b] below meth c H locs (cells + 1) (slots + 6) Q (F0 m 351 ls [])) : W p l e room_1 s m #[Value.ref b] below meth c H locs cells slots Q (F0 m 288 ls []) := by
  obtain ⟨hx, hb, hr, hml, hown0, hts0, hX, hbl, hlocks, hgv⟩ := id C0
  have hown : s.vm.findClass RL = some m.cls := hown0
  have hts : ∀ w ∈ wsL_law, w.before #[Value.ref b] s = true := fun w h => hts0 w (wsL_law_in w h)
  obtain ⟨hK, -, hN⟩ := id hm
  have hA : ∀ q : Nat, s.heap.size ≤ q → lA s q := fun _ h => h
  have hKI := hm.2.1
  have hc : σ 0 3 = nI 3 := hI.2.2.2.2.1
  refine lv_bipush (v := 6) hx hb dL_law_288 (by decide) ?_
  refine va_newa (atype := .int) (ty := .int) (N' := 6) (a0 := (6, .inl (fun _ => 0))) hx hb (hts0 (.arrayClass .int) (by decide +kernel)) rfl hKI hw.1 hw.2.1 hw.2.2 hA (fun _ => rfl) (by decide) (by decide) (by decide) hf.1 hf.2 dL_law_290 (fun n cN H hKJ hP hD hS => ?_)
  have hKN : va_K D vwCl [(cN, .int)] s := hKJ.sub (tys' := [(cN, .int)]) [1] rfl
  have hf : cells + 1 ≤ room_1.cells ∧ slots + 6 ≤ room_1.slots := hf
  rw [List.append_assoc] at hP hD
  have hw : lH D a cs [(o, .inl (cI, 6, .inl fl)), (n, .inl (cN, 6, .inl (fun _ => 0)))] (lA s) s.heap σ H locs := ⟨hP, hD, hS⟩
  refine lv_dup hx hb dL_law_292 rfl ?_
  refine lv_iconst (v := nI 0) hx hb dL_law_293 (by decide) ?_
  refine lv_aload_n hx hb dL_law_294 rfl (lv_at hl 1 rfl) ?_
  refine lv_bipush (v := nI 8) hx hb dL_law_295 (by decide) ?_
  refine lc_i (sr_V (i := 0) (As := [.int (nI 8)]) (rest := [.int (nI 0), .ref n, .ref n]) ⟨hx, hb, hml, hown, hts⟩ (zX3_many l D a cs σ 3 (by decide) hc 8 (by decide) _) (cwV 1 hts gL_law_X3_many rfl rfl rfl (by decide +kernel) ⟨Nat.le_of_ble_eq_true rfl, Nat.le_of_ble_eq_true rfl⟩) hK hN (lH_s hw) (by omega) sE_o kcX3 rfl hl.1 (Nat.le_of_ble_eq_true rfl) dL_law_297 hf) hw hA (fun H locs hw => ?_)
  refine l_wr hx hb hKN hw 1 rfl (by decide) (by decide) dL_law_300 (fun H locs hw => ?_)
  have hw : lH D a cs [(o, .inl (cI, 6, .inl fl)), (n, .inl (cN, 6, .inl (upd (fun _ => 0) 0 (f_X3_many σ 3 8))))] (lA s) s.heap σ H locs := hw
  refine lv_dup hx hb dL_law_301 rfl ?_
  refine lv_iconst (v := nI 1) hx hb dL_law_302 (by decide) ?_
  refine lv_aload_n hx hb dL_law_303 rfl (lv_at hl 1 rfl) ?_
  refine lv_bipush (v := nI 9) hx hb dL_law_304 (by decide) ?_
  refine lc_i (sr_V (i := 0) (As := [.int (nI 9)]) (rest := [.int (nI 1), .ref n, .ref n]) ⟨hx, hb, hml, hown, hts⟩ (zX3_many l D a cs σ 3 (by decide) hc 9 (by decide) _) (cwV 1 hts gL_law_X3_many rfl rfl rfl (by decide +kernel) ⟨Nat.le_of_ble_eq_true rfl, Nat.le_of_ble_eq_true rfl⟩) hK hN (lH_s hw) (by omega) sE_o kcX3 rfl hl.1 (Nat.le_of_ble_eq_true rfl) dL_law_306 hf) hw hA (fun H locs hw => ?_)
  refine l_wr hx hb hKN hw 1 rfl (by decide) (by decide) dL_law_309 (fun H locs hw => ?_)
  have hw : lH D a cs [(o, .inl (cI, 6, .inl fl)), (n, .inl (cN, 6, .inl (upd (upd (fun _ => 0) 0 (f_X3_many σ 3 8)) 1 (f_X3_many σ 3 9))))] (lA s) s.heap σ H locs := hw
  refine lv_dup hx hb dL_law_310 rfl ?_
  refine lv_iconst (v := nI 2) hx hb dL_law_311 (by decide) ?_
  refine lv_aload_n hx hb dL_law_312 rfl (lv_at hl 1 rfl) ?_
  refine lv_bipush (v := nI 10) hx hb dL_law_313 (by decide) ?_
  refine lc_i (sr_V (i := 0) (As := [.int (nI 10)]) (rest := [.int (nI 2), .ref n, .ref n]) ⟨hx, hb, hml, hown, hts⟩ (zX3_many l D a cs σ 3 (by decide) hc 10 (by decide) _) (cwV 1 hts gL_law_X3_many rfl rfl rfl (by decide +kernel) ⟨Nat.le_of_ble_eq_true rfl, Nat.le_of_ble_eq_true rfl⟩) hK hN (lH_s hw) (by omega) sE_o kcX3 rfl hl.1 (Nat.le_of_ble_eq_true rfl) dL_law_315 hf) hw hA (fun H locs hw => ?_)
  refine l_wr hx hb hKN hw 1 rfl (by decide) (by decide) dL_law_318 (fun H locs hw => ?_)
  have hw : lH D a cs [(o, .inl (cI, 6, .inl fl)), (n, .inl (cN, 6, .inl (upd (upd (upd (fun _ => 0) 0 (f_X3_many σ 3 8)) 1 (f_X3_many σ 3 9)) 2 (f_X3_many σ 3 10))))] (lA s) s.heap σ H locs := hw
  refine lv_dup hx hb dL_law_319 rfl ?_
  refine lv_iconst (v := nI 3) hx hb dL_law_320 (by decide) ?_
  refine lv_aload_n hx hb dL_law_321 rfl (lv_at hl 1 rfl) ?_
  refine lv_bipush (v := nI 11) hx hb dL_law_322 (by decide) ?_
  refine lc_i (sr_V (i := 0) (As := [.int (nI 11)]) (rest := [.int (nI 3), .ref n, .ref n]) ⟨hx, hb, hml, hown, hts⟩ (zX3_many l D a cs σ 3 (by decide) hc 11 (by decide) _) (cwV 1 hts gL_law_X3_many rfl rfl rfl (by decide +kernel) ⟨Nat.le_of_ble_eq_true rfl, Nat.le_of_ble_eq_true rfl⟩) hK hN (lH_s hw) (by omega) sE_o kcX3 rfl hl.1 (Nat.le_of_ble_eq_true rfl) dL_law_324 hf) hw hA (fun H locs hw => ?_)
  refine l_wr hx hb hKN hw 1 rfl (by decide) (by decide) dL_law_327 (fun H locs hw => ?_)
  have hw : lH D a cs [(o, .inl (cI, 6, .inl fl)), (n, .inl (cN, 6, .inl (upd (upd (upd (upd (fun _ => 0) 0 (f_X3_many σ 3 8)) 1 (f_X3_many σ 3 9)) 2 (f_X3_many σ 3 10)) 3 (f_X3_many σ 3 11))))] (lA s) s.heap σ H locs := hw
  refine lv_dup hx hb dL_law_328 rfl ?_
  refine lv_iconst (v := nI 4) hx hb dL_law_329 (by decide) ?_
  refine lv_aload_n hx hb dL_law_330 rfl (lv_at hl 1 rfl) ?_
  refine lv_bipush (v := nI 13) hx hb dL_law_331 (by decide) ?_
  refine lc_i (sr_V (i := 0) (As := [.int (nI 13)]) (rest := [.int (nI 4), .ref n, .ref n]) ⟨hx, hb, hml, hown, hts⟩ (zX3_many l D a cs σ 3 (by decide) hc 13 (by decide) _) (cwV 1 hts gL_law_X3_many rfl rfl rfl (by decide +kernel) ⟨Nat.le_of_ble_eq_true rfl, Nat.le_of_ble_eq_true rfl⟩) hK hN (lH_s hw) (by omega) sE_o kcX3 rfl hl.1 (Nat.le_of_ble_eq_true rfl) dL_law_333 hf) hw hA (fun H locs hw => ?_)
  refine l_wr hx hb hKN hw 1 rfl (by decide) (by decide) dL_law_336 (fun H locs hw => ?_)
  have hw : lH D a cs [(o, .inl (cI, 6, .inl fl)), (n, .inl (cN, 6, .inl (upd (upd (upd (upd (upd (fun _ => 0) 0 (f_X3_many σ 3 8)) 1 (f_X3_many σ 3 9)) 2 (f_X3_many σ 3 10)) 3 (f_X3_many σ 3 11)) 4 (f_X3_many σ 3 13))))] (lA s) s.heap σ H locs := hw
  refine lv_dup hx hb dL_law_337 rfl ?_
  refine lv_iconst (v := nI 5) hx hb dL_law_338 (by decide) ?_
  refine lv_aload_n hx hb dL_law_339 rfl (lv_at hl 1 rfl) ?_
  refine lv_bipush (v := nI 16) hx hb dL_law_340 (by decide) ?_
  refine lc_i (sr_V (i := 0) (As := [.int (nI 16)]) (rest := [.int (nI 5), .ref n, .ref n]) ⟨hx, hb, hml, hown, hts⟩ (zX3_many l D a cs σ 3 (by decide) hc 16 (by decide) _) (cwV 1 hts gL_law_X3_many rfl rfl rfl (by decide +kernel) ⟨Nat.le_of_ble_eq_true rfl, Nat.le_of_ble_eq_true rfl⟩) hK hN (lH_s hw) (by omega) sE_o kcX3 rfl hl.1 (Nat.le_of_ble_eq_true rfl) dL_law_342 hf) hw hA (fun H locs hw => ?_)
  refine l_wr hx hb hKN hw 1 rfl (by decide) (by decide) dL_law_345 (fun H locs hw => ?_)
  have hw : lH D a cs [(o, .inl (cI, 6, .inl fl)), (n, .inl (cN, 6, .inl (upd (upd (upd (upd (upd (upd (fun _ => 0) 0 (f_X3_many σ 3 8)) 1 (f_X3_many σ 3 9)) 2 (f_X3_many σ 3 10)) 3 (f_X3_many σ 3 11)) 4 (f_X3_many σ 3 13)) 5 (f_X3_many σ 3 16))))] (lA s) s.heap σ H locs := hw
  refine lv_astore (lv' := [(7, .ref n), (0, .ref b), (1, .ref (a 0)), (2, .ref o), (3, .int (nI k)), (4, .int x), (5, .int (nI (5 + q))), (6, .int (nI j))]) hx hb dL_law_346 hl (by decide) rfl (fun ls hl => ?_)
  refine lv_iconst (v := nI 0) hx hb dL_law_348 (by decide) ?_
  refine lv_istore (lv' := [(8, .int (nI 0)), (7, .ref n), (0, .ref b), (1, .ref (a 0)), (2, .ref o), (3, .int (nI k)), (4, .int x), (5, .int (nI (5 + q))), (6, .int (nI j))]) hx hb dL_law_349 hl (by decide) rfl (fun ls hl => ?_)
  refine kk n cN _ H locs ls hKN (fun i hi => ?_) hw (lv_sub hl [2, 3, 4, 5, 6, 7, 8, 1, 0] rfl)
  rcases (show i = 0 ∨ i = 1 ∨ i = 2 ∨ i = 3 ∨ i = 4 ∨ i = 5 by omega) with rfl | rfl | rfl | rfl | rfl | rfl
  · exact many8 hI
  · rfl
  · rfl
  · rfl
  · rfl
  · rfl
set_option maxHeartbeats 4000000 in
set_option maxRecDepth 100000 in
/-- no sum is less; they are kept -/
theorem lr_sums {p : Program} {e : Env} {s : State} {m : MethodId} {below : List Frame} {meth : Method} {c : Code} {l : Launch} {b L : Nat} {xs : Nat → Int32} (C0 : lw_At p s m meth c b L xs) {D : va_G} {a : Nat → Nat} {cs : Nat → ClassId} {cI : ClassId} (hm : lM D cs cI s) {σ : sS} {cells slots : Nat} {Q : State → Prop} {o k : Nat} (hf : cells ≤ room_1.cells ∧ slots ≤ room_1.slots) {q j n : Nat} {x : Int32} {cN : ClassId} {g : Nat → Int32} (hKN : va_K D vwCl [(cN, .int)] s) (hg : ∀ i, i < 6 → g i = nv σ i)
    (kk : ∀ (fl : Nat → Int32) (H : Heap) (locs : List Loc) (ls : Array Slot), (∀ i, i < 6 → (fl i).toInt ≤ (nv σ i).toInt) → lH D a cs [(o, .inl (cI, 6, .inl fl)), (n, .inl (cN, 6, .inl g))] (lA s) s.heap σ H locs → lv_has ls 9 [(0, .ref b), (1, .ref (a 0)), (2, .ref o), (3, .int (nI k)), (4, .int x), (5, .int (nI (5 + q))), (6, .int (nI j))] → W p l e room_1 s m #[Value.ref b] below meth c H locs cells slots Q (F0 m 387 ls [])) :
    ∀ (r i : Nat) (fl : Nat → Int32) (H : Heap) (locs : List Loc) (ls : Array Slot), i + r = 6 → (∀ i, i < 6 → (fl i).toInt ≤ (nv σ i).toInt) → lH D a cs [(o, .inl (cI, 6, .inl fl)), (n, .inl (cN, 6, .inl g))] (lA s) s.heap σ H locs → lv_has ls 9 [(0, .ref b), (1, .ref (a 0)), (2, .ref o), (3, .int (nI k)), (4, .int x), (5, .int (nI (5 + q))), (6, .int (nI j)), (7, .ref n), (8, .int (nI i))] → W p l e room_1 s m #[Value.ref b] below meth c H locs cells slots Q (F0 m 351 ls []) := by
  obtain ⟨hx, hb, hr, hml, hown0, hts0, hX, hbl, hlocks, hgv⟩ := id C0
  have hown : s.vm.findClass RL = some m.cls := hown0
  have hts : ∀ w ∈ wsL_law, w.before #[Value.ref b] s = true := fun w h => hts0 w (wsL_law_in w h)
  obtain ⟨hK, -, hN⟩ := id hm
  have hA : ∀ q : Nat, s.heap.size ≤ q → lA s q := fun _ h => h
  have hKI := hm.2.1
  intro r
  induction r with
  | zero =>
    intro i fl H locs ls hi hs hw hl
    refine lv_iload hx hb dL_law_351 (lv_at hl 8 rfl) ?_
    refine lv_bipush (v := 6) hx hb dL_law_353 (by decide) ?_
    refine lv_icmp_ge (tgt := 387) hx hb dL_law_355 (by decide) (fun c1 => ?_) (fun c1 => absurd (by rw [show i = 6 by omega]; decide) c1)
    exact kk fl H locs ls hs hw (lv_sub hl [0, 1, 2, 3, 4, 5, 6] rfl)
  | succ r ih =>
    intro i fl H locs ls hi hs hw hl
    refine lv_iload hx hb dL_law_351 (lv_at hl 8 rfl) ?_
    refine lv_bipush (v := 6) hx hb dL_law_353 (by decide) ?_
    refine lv_icmp_ge (tgt := 387) hx hb dL_law_355 (by decide) (fun c1 => absurd c1 (nI_ge (a := i) (b := 6) (by omega) (by decide))) (fun c1 => ?_)
    refine lv_aload hx hb dL_law_358 (lv_at hl 7 rfl) ?_
    refine lv_iload hx hb dL_law_360 (lv_at hl 8 rfl) ?_
    refine l_rd hx hb hKN hw 1 rfl (by omega) (by decide) dL_law_362 ?_
    refine lv_aload_n hx hb dL_law_363 rfl (lv_at hl 2 rfl) ?_
    refine lv_iload hx hb dL_law_364 (lv_at hl 8 rfl) ?_
    refine l_rd hx hb hKI hw 0 rfl (by omega) (by decide) dL_law_366 ?_
    refine lv_icmp_ge (tgt := 372) hx hb dL_law_367 (by decide) (fun _ => ?_) (fun c2 => absurd (ti_le.mpr (by rw [hg i (by omega)]; exact hs i (by omega))) c2)
    refine lv_aload_n hx hb dL_law_372 rfl (lv_at hl 2 rfl) ?_
    refine lv_iload hx hb dL_law_373 (lv_at hl 8 rfl) ?_
    refine lv_aload hx hb dL_law_375 (lv_at hl 7 rfl) ?_
    refine lv_iload hx hb dL_law_377 (lv_at hl 8 rfl) ?_
    refine l_rd hx hb hKN hw 1 rfl (by omega) (by decide) dL_law_379 ?_
    refine l_wr hx hb hKI hw 0 rfl (by omega) (by decide) dL_law_380 (fun H locs hw => ?_)
    have hw : lH D a cs [(o, .inl (cI, 6, .inl (upd fl i (g i)))), (n, .inl (cN, 6, .inl g))] (lA s) s.heap σ H locs := hw
    refine lv_iinc (v := nI (i + 1)) (lv' := [(8, .int (nI (i + 1))), (0, .ref b), (1, .ref (a 0)), (2, .ref o), (3, .int (nI k)), (4, .int x), (5, .int (nI (5 + q))), (6, .int (nI j)), (7, .ref n)]) hx hb dL_law_381 hl (k := 8) rfl (nI_1 i) (by decide) rfl (fun ls hl => ?_)
    refine lv_goto (tgt := 351) hx hb dL_law_384 (by decide) ?_
    refine ih (i + 1) (upd fl i (g i)) H locs ls (by omega) (fun i2 hi2 => ?_) hw (lv_sub hl [1, 2, 3, 4, 5, 6, 7, 8, 0] rfl)
    by_cases hii : i2 = i
    · subst hii; rw [show upd fl i2 (g i2) i2 = g i2 from if_pos rfl, hg i2 hi2]; exact Int.le_refl _
    · rw [upd_ne hii]; exact hs i2 hi2
set_option maxHeartbeats 4000000 in
set_option maxRecDepth 100000 in
/-- the rights in the pan are twelve at most -/
theorem lr_twelve {p : Program} {e : Env} {s : State} {m : MethodId} {below : List Frame} {meth : Method} {c : Code} {l : Launch} {b L : Nat} {xs : Nat → Int32} (C0 : lw_At p s m meth c b L xs) {D : va_G} {a : Nat → Nat} {cs : Nat → ClassId} {cI : ClassId} (hm : lM D cs cI s) {w : va_W} {σ : sS} {H : Heap} {locs : List Loc} {cells slots : Nat} {Q : State → Prop} {ls : Array Slot} {o k : Nat} (hf : cells ≤ room_1.cells ∧ slots ≤ room_1.slots) {q j : Nat} {x : Int32} {B1 B2 B3 : Int} (hq : q < 3) (hI : gI B1 B2 B3 σ) (hw : lH D a cs w (lA s) s.heap σ H locs) (hl : lv_has ls 9 [(0, .ref b), (1, .ref (a 0)), (2, .ref o), (3, .int (nI k)), (4, .int x), (5, .int (nI (5 + q))), (6, .int (nI j))])
    (kk : ∀ (H : Heap) (locs : List Loc) (ls : Array Slot), lH D a cs w (lA s) s.heap σ H locs → lv_has ls 9 [(0, .ref b), (1, .ref (a 0)), (2, .ref o), (3, .int (nI (k + 1)))] → W p l e room_1 s m #[Value.ref b] below meth c H locs cells slots Q (F0 m 21 ls [])) : W p l e room_1 s m #[Value.ref b] below meth c H locs cells slots Q (F0 m 387 ls []) := by
  obtain ⟨hx, hb, hr, hml, hown0, hts0, hX, hbl, hlocks, hgv⟩ := id C0
  have hown : s.vm.findClass RL = some m.cls := hown0
  have hts : ∀ w ∈ wsL_law, w.before #[Value.ref b] s = true := fun w h => hts0 w (wsL_law_in w h)
  obtain ⟨hK, -, hN⟩ := id hm
  have hA : ∀ q : Nat, s.heap.size ≤ q → lA s q := fun _ h => h
  have hc : σ 0 3 = nI 3 := hI.2.2.2.2.1
  have h0 := hI.2.2.2.2.2.2.1 0 (by omega) q hq
  have h1 := hI.2.2.2.2.2.2.1 1 (by omega) q hq
  have h2 := hI.2.2.2.2.2.2.1 2 (by omega) q hq
  have hs := hI.2.2.2.2.2.2.2.1 q hq
  refine lv_aload_n hx hb dL_law_387 rfl (lv_at hl 1 rfl) ?_
  refine lv_iconst (v := nI 0) hx hb dL_law_388 (by decide) ?_
  refine lv_iload hx hb dL_law_389 (lv_at hl 5 rfl) ?_
  refine lc_i (sr_V (i := 0) (As := [.int (nI 0), .int (nI (5 + q))]) (rest := []) ⟨hx, hb, hml, hown, hts⟩ (zX3_rightOf l D a cs σ 3 (by decide) hc 0 (by decide) q hq _) (cwV 2 hts gL_law_X3_rightOf rfl rfl rfl (by decide +kernel) ⟨Nat.le_of_ble_eq_true rfl, Nat.le_of_ble_eq_true rfl⟩) hK hN (lH_s hw) (by omega) sE_o kcX3 rfl hl.1 (Nat.le_of_ble_eq_true rfl) dL_law_391 hf) hw hA (fun H locs hw => ?_)
  refine lv_aload_n hx hb dL_law_394 rfl (lv_at hl 1 rfl) ?_
  refine lv_iconst (v := nI 1) hx hb dL_law_395 (by decide) ?_
  refine lv_iload hx hb dL_law_396 (lv_at hl 5 rfl) ?_
  refine lc_i (sr_V (i := 0) (As := [.int (nI 1), .int (nI (5 + q))]) (rest := [.int (σ (28 + 0) q)]) ⟨hx, hb, hml, hown, hts⟩ (zX3_rightOf l D a cs σ 3 (by decide) hc 1 (by decide) q hq _) (cwV 2 hts gL_law_X3_rightOf rfl rfl rfl (by decide +kernel) ⟨Nat.le_of_ble_eq_true rfl, Nat.le_of_ble_eq_true rfl⟩) hK hN (lH_s hw) (by omega) sE_o kcX3 rfl hl.1 (Nat.le_of_ble_eq_true rfl) dL_law_398 hf) hw hA (fun H locs hw => ?_)
  refine lv_iadd hx hb dL_law_401 ?_
  refine lv_aload_n hx hb dL_law_402 rfl (lv_at hl 1 rfl) ?_
  refine lv_iconst (v := nI 2) hx hb dL_law_403 (by decide) ?_
  refine lv_iload hx hb dL_law_404 (lv_at hl 5 rfl) ?_
  refine lc_i (sr_V (i := 0) (As := [.int (nI 2), .int (nI (5 + q))]) (rest := [.int (σ (28 + 0) q + σ (28 + 1) q)]) ⟨hx, hb, hml, hown, hts⟩ (zX3_rightOf l D a cs σ 3 (by decide) hc 2 (by decide) q hq _) (cwV 2 hts gL_law_X3_rightOf rfl rfl rfl (by decide +kernel) ⟨Nat.le_of_ble_eq_true rfl, Nat.le_of_ble_eq_true rfl⟩) hK hN (lH_s hw) (by omega) sE_o kcX3 rfl hl.1 (Nat.le_of_ble_eq_true rfl) dL_law_406 hf) hw hA (fun H locs hw => ?_)
  refine lv_iadd hx hb dL_law_409 ?_
  refine lv_bipush (v := 12) hx hb dL_law_410 (by decide) ?_
  have e01 : (σ (28 + 0) q + σ (28 + 1) q).toInt = (σ (28 + 0) q).toInt + (σ (28 + 1) q).toInt := ti_add (by omega) (by omega)
  have e012 : (σ (28 + 0) q + σ (28 + 1) q + σ (28 + 2) q).toInt = (σ (28 + 0) q).toInt + (σ (28 + 1) q).toInt + (σ (28 + 2) q).toInt := by
    rw [ti_add (by omega) (by omega), e01]
  refine lv_icmp_le (tgt := 417) hx hb dL_law_412 (by decide) (fun _ => ?_) (fun c1 => absurd (ti_le.mpr (by rw [e012, show (12 : Int32).toInt = 12 from rfl]; omega)) c1)
  refine lv_iinc (v := nI (k + 1)) (lv' := [(3, .int (nI (k + 1))), (0, .ref b), (1, .ref (a 0)), (2, .ref o), (4, .int x), (5, .int (nI (5 + q))), (6, .int (nI j))]) hx hb dL_law_417 hl (k := 3) rfl (nI_1 k) (by decide) rfl (fun ls hl => ?_)
  refine lv_goto (tgt := 21) hx hb dL_law_420 (by decide) ?_
  exact kk H locs ls hw (lv_sub hl [1, 2, 3, 0] rfl)
set_option maxHeartbeats 4000000 in
set_option maxRecDepth 100000 in
/-- asking leaves the checksum; the law answers true -/
theorem lr_end {p : Program} {e : Env} {s : State} {m : MethodId} {below : List Frame} {meth : Method} {c : Code} {l : Launch} {b L : Nat} {xs : Nat → Int32} (C0 : lw_At p s m meth c b L xs) {D : va_G} {a : Nat → Nat} {cs : Nat → ClassId} {cI : ClassId} (hm : lM D cs cI s) {w : va_W} {σ : sS} {H : Heap} {locs : List Loc} {cells slots : Nat} {ls : Array Slot} {B1 B2 B3 : Int} (hI : gI B1 B2 B3 σ) (hf : cells ≤ room_1.cells ∧ slots ≤ room_1.slots) (hc9 : cells ≤ 625830) (hs9 : slots ≤ 7224133) (hw : lH D a cs w (lA s) s.heap σ H locs) (hl : lv_has ls 9 [(0, .ref b), (1, .ref (a 0))]) : W p l e room_1 s m #[Value.ref b] below meth c H locs cells slots (lw_Z below #[Value.ref b] s) (F0 m 423 ls []) := by
  obtain ⟨hx, hb, hr, hml, hown0, hts0, hX, hbl, hlocks, hgv⟩ := id C0
  have hown : s.vm.findClass RL = some m.cls := hown0
  have hts : ∀ w ∈ wsL_law, w.before #[Value.ref b] s = true := fun w h => hts0 w (wsL_law_in w h)
  obtain ⟨hK, -, hN⟩ := id hm
  have hA : ∀ q : Nat, s.heap.size ≤ q → lA s q := fun _ h => h
  have hc : σ 0 3 = nI 3 := hI.2.2.2.2.1
  have hz : sZ σ := hI.2.2.1
  have z9 : ∀ {τ : sS}, oE σ τ → sZ τ := fun h => sZ_out hz (fun j hj => h _ ⟨by omega, by omega⟩)
  have n9 : ∀ {τ : sS}, oE σ τ → τ 0 3 = nI 3 := fun h => by rw [h 0 ⟨by decide, by omega⟩]; exact hc
  refine lv_aload_n hx hb dL_law_423 rfl (lv_at hl 1 rfl) ?_
  refine lc_l (sr_V (i := 0) (As := []) (rest := []) ⟨hx, hb, hml, hown, hts⟩ (zX3_digest l D a cs σ 3 (by decide) hc hz _) (cwV 0 hts gL_law_X3_digest rfl rfl rfl (by decide +kernel) ⟨Nat.le_of_ble_eq_true rfl, Nat.le_of_ble_eq_true rfl⟩) hK hN (lH_s hw) (by omega) sE_o kcX3 rfl hl.1 (Nat.le_of_ble_eq_true rfl) dL_law_424 hf) hw hA (fun H locs hw => ?_)
  refine lv_lstore_n (lv' := [(3, .long (f_X3_digest σ 3)), (0, .ref b), (1, .ref (a 0))]) hx hb dL_law_427 rfl hl (by decide) rfl (fun ls hl => ?_)
  have h1 : oE σ (f_X3_digestS σ) := oE_digS
  generalize f_X3_digestS σ = τ1 at h1 hw
  refine lv_aload_n hx hb dL_law_428 rfl (lv_at hl 2 rfl) ?_
  refine lv_iconst (v := nI 2) hx hb dL_law_429 (by decide) ?_
  refine lv_iconst (v := 5) hx hb dL_law_430 (by decide) ?_
  refine lv_iconst (v := 5) hx hb dL_law_431 (by decide) ?_
  refine lc_i (sr_V (i := 0) (As := [.int (nI 2), .int 5, .int 5]) (rest := []) ⟨hx, hb, hml, hown, hts⟩ (zX3_bestGates l D a cs τ1 (z9 h1) 2 ⟨by decide, by decide⟩ 5 5 (by decide) (by decide) (by decide) (by decide) _) (cwV 3 hts gL_law_X3_bestGates rfl rfl rfl (by decide +kernel) ⟨Nat.le_of_ble_eq_true rfl, Nat.le_of_ble_eq_true rfl⟩) hK hN (lH_s hw) (by omega) sE_o kcX3 rfl hl.1 (Nat.le_of_ble_eq_true rfl) dL_law_432 hf) hw hA (fun H locs hw => ?_)
  have h2 : oE σ (f_X3_bestS 2 5 5 256 0 τ1) := oE_trans h1 oE_best
  generalize f_X3_bestS 2 5 5 256 0 τ1 = τ2 at h2 hw
  refine lv_sipush (v := 256) hx hb dL_law_435 (by decide) ?_
  have hbest : f_X3_bestGates τ1 2 5 5 < 256 := best_lt 256 0 τ1 0 (-1) (by decide) (by decide)
  refine lv_icmp_ge (tgt := 467) hx hb dL_law_438 (by decide) (fun c1 => absurd (ti_lt.mp hbest) (by have := ti_le.mp c1; omega)) (fun _ => ?_)
  refine lv_aload_n hx hb dL_law_441 rfl (lv_at hl 2 rfl) ?_
  refine lv_iconst (v := nI (5 + 0)) hx hb dL_law_442 (by decide) ?_
  refine lv_bipush (v := 9) hx hb dL_law_443 (by decide) ?_
  refine lv_bipush (v := 9) hx hb dL_law_445 (by decide) ?_
  refine lc_i (sr_V (i := 0) (As := [.int (nI (5 + 0)), .int 9, .int 9]) (rest := []) ⟨hx, hb, hml, hown, hts⟩ (zX3_crustIn l D a cs τ2 (z9 h2) 0 (by decide) 9 9 (by decide) (by decide) (by decide) (by decide) _) (cwV 3 hts gL_law_X3_crustIn rfl rfl rfl (by decide +kernel) ⟨Nat.le_of_ble_eq_true rfl, Nat.le_of_ble_eq_true rfl⟩) hK hN (lH_s hw) (by omega) sE_o kcX3 rfl hl.1 (Nat.le_of_ble_eq_true rfl) dL_law_447 hf) hw hA (fun H locs hw => ?_)
  have h3 : oE σ (f_X3_crustIn τ2 0 9 9) := oE_trans h2 oE_crust
  generalize f_X3_crustIn τ2 0 9 9 = τ3 at h3 hw
  refine lv_iconst (v := -1) hx hb dL_law_450 (by decide) ?_
  have hcr : -1 ≤ f_X3_crustInV τ2 0 9 9 := crust_ge 60 1 _ (by decide)
  refine lv_icmp_lt (tgt := 467) hx hb dL_law_451 (by decide) (fun c1 => absurd (ti_le.mp hcr) (by have := ti_lt.mp c1; omega)) (fun _ => ?_)
  refine lv_aload_n hx hb dL_law_454 rfl (lv_at hl 2 rfl) ?_
  refine lc_l (sr_V (i := 0) (As := []) (rest := []) ⟨hx, hb, hml, hown, hts⟩ (zX3_digest l D a cs τ3 3 (by decide) (n9 h3) (z9 h3) _) (cwV 0 hts gL_law_X3_digest rfl rfl rfl (by decide +kernel) ⟨Nat.le_of_ble_eq_true rfl, Nat.le_of_ble_eq_true rfl⟩) hK hN (lH_s hw) (by omega) sE_o kcX3 rfl hl.1 (Nat.le_of_ble_eq_true rfl) dL_law_455 hf) hw hA (fun H locs hw => ?_)
  rw [oE_digest h3]
  refine lv_lload_n hx hb dL_law_458 rfl (lv_at hl 0 rfl) ?_
  refine W.lcmp hx hb dL_law_459 ?_
  refine lv_if_ne (tgt := 467) hx hb dL_law_460 (by decide) (fun h => absurd (by unfold lg_cmp; simp) h) (fun _ => ?_)
  refine lv_iconst (v := 1) hx hb dL_law_463 (by decide) ?_
  refine lv_goto (tgt := 468) hx hb dL_law_464 (by decide) ?_
  refine W.widen (k := 625830) (n := 7224133) hc9 hs9 ?_
  refine va_forget (fun q hq => hw.2.2.2.2 q hq) ?_
  exact lw_ret hx hb hr hlocks dL_law_468
