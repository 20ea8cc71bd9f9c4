/-! The law's roads: what a round does to the object. -/
set_option maxHeartbeats 4000000 in
set_option maxRecDepth 100000 in
/-- some days go by, and what is held is asked -/
theorem lr_pass {p : Program} {e : Env} {s : State} {m : MethodId} {below : List Frame} {meth : Method} {c : Code} {l : Launch} {b L : Nat} {xs : Nat → Int32} (C0 : lw_At p s m meth c b L xs) {D : va_G} {a : Nat → Nat} {cs : Nat → ClassId} {cI : ClassId} (hm : lM D cs cI s) {w : va_W} {σ : sS} {H : Heap} {locs : List Loc} {cells slots : Nat} {Q : State → Prop} {ls : Array Slot} {o k q j : Nat} {x : Int32} (hk : k < 22) (hq : q < 3) (hj : j < 3) (hG : lG k σ) (hf : cells ≤ room_1.cells ∧ slots ≤ room_1.slots) (hw : lH D a cs w (lA s) s.heap σ H locs) (hl : lv_has ls 9 [(0, .ref b), (1, .ref (a 0)), (2, .ref o), (3, .int (nI k)), (4, .int x), (5, .int (nI (5 + q))), (6, .int (nI j))])
    (kk : ∀ (τ : sS) (H : Heap) (locs : List Loc), lG (k + 1) τ → gM σ τ → lH D a cs w (lA s) s.heap τ H locs → W p l e room_1 s m #[Value.ref b] below meth c H locs cells slots Q (F0 m 288 ls [])) : W p l e room_1 s m #[Value.ref b] below meth c H locs cells slots Q (F0 m 108 ls []) := by
  obtain ⟨hx, hb, hr, hml, hown0, hts0, hX, hbl, hlocks, hgv⟩ := id C0
  have hown : s.vm.findClass RL = some m.cls := hown0
  have hts : ∀ w ∈ wsL_law, w.before #[Value.ref b] s = true := fun w h => hts0 w (wsL_law_in w h)
  obtain ⟨hK, -, hN⟩ := id hm
  have hA : ∀ q : Nat, s.heap.size ≤ q → lA s q := fun _ h => h
  obtain ⟨hI, hd⟩ := id hG
  have hc : σ 0 3 = nI 3 := hI.2.2.2.2.1
  have hday0 : 0 ≤ (σ (1 + 0) 1).toInt := hI.2.2.2.1
  have c1 : (4410 : Int) * k ≤ 1000000 := by omega
  have c2 : (54540 : Int) * k ≤ 2000000 := by omega
  have c3 : (14634 : Int) * k ≤ 1000000 := by omega
  have same : lG (k + 1) σ := lG_up hI (by omega) (by omega) (by omega) (by omega)
  refine lv_aload_n hx hb dL_law_108 rfl (lv_at hl 1 rfl) ?_
  refine lv_iconst (v := 1) hx hb dL_law_109 (by decide) ?_
  refine lv_iload hx hb dL_law_110 (lv_at hl 4 rfl) ?_
  refine lv_iconst (v := 3) hx hb dL_law_112 (by decide) ?_
  refine lv_ishr hx hb dL_law_113 ?_
  refine lv_bipush (v := 9) hx hb dL_law_114 (by decide) ?_
  refine l_bl (n := 9) C0 (by decide) hw hl.1 (Nat.le_of_ble_eq_true rfl) dL_law_116 hf (fun d H locs hd0 hd1 hw => ?_)
  obtain ⟨n0, rfl, hn0⟩ : ∃ n : Nat, d = nI n ∧ n < 9 := ⟨d.toInt.toNat, nat_of hd0, by rw [show (9 : Int32).toInt = 9 from rfl] at hd1; omega⟩
  refine lv_iadd hx hb dL_law_119 ?_
  refine w_topE (v := nI (1 + n0)) (by rw [← nI_add 1 n0]; rfl) ?_
  refine lv_iload hx hb dL_law_120 (lv_at hl 4 rfl) ?_
  refine lv_iconst (v := 4) hx hb dL_law_122 (by decide) ?_
  refine lv_ishr hx hb dL_law_123 ?_
  refine lv_bipush (v := 10) hx hb dL_law_124 (by decide) ?_
  refine l_bl (n := 10) C0 (by decide) hw hl.1 (Nat.le_of_ble_eq_true rfl) dL_law_126 hf (fun y H locs hy0 hy1 hw => ?_)
  refine lv_iload hx hb dL_law_129 (lv_at hl 4 rfl) ?_
  refine lv_iconst (v := 5) hx hb dL_law_131 (by decide) ?_
  refine lv_ishr hx hb dL_law_132 ?_
  refine lv_bipush (v := 10) hx hb dL_law_133 (by decide) ?_
  refine l_bl (n := 10) C0 (by decide) hw hl.1 (Nat.le_of_ble_eq_true rfl) dL_law_135 hf (fun z H locs hz0 hz1 hw => ?_)
  rw [show (10 : Int32).toInt = 10 from rfl] at hy1 hz1
  have join : ∀ (v : Int32) (H : Heap) (locs : List Loc), 0 ≤ v.toInt → v.toInt ≤ 40 → lH D a cs w (lA s) s.heap σ H locs → W p l e room_1 s m #[Value.ref b] below meth c H locs cells slots Q (F0 m 164 ls [.int v, .int z, .int y, .int (nI (1 + n0)), .ref (a 0)]) := by
    intro v H locs hv0 hv1 hw
    have hyz : (y + z).toInt = y.toInt + z.toInt := ti_add (by omega) (by omega)
    have e0 : (0 : Int32).toInt = 0 := rfl
    have g := gI_pass (x := y) (y := z) (z := v) (m := 1 + n0) hI (by omega) (by omega) (by omega) hv0 hv1 (by omega) (by omega) (by omega)
    have hnI : (nI (1 + n0)).toInt = ((1 + n0 : Nat) : Int) := nI_toInt (by omega)
    refine lc_i (sr_V (i := 0) (As := [.int (nI (1 + n0)), .int y, .int z, .int v]) (rest := []) ⟨hx, hb, hml, hown, hts⟩ (zX3_pass l D a cs σ (1 + n0) ⟨by omega, by omega⟩ y z v (fun h => by have := ti_lt.mp h; omega) (ti_le.mpr (by rw [show (9 : Int32).toInt = 9 from rfl]; omega)) (fun h => by have := ti_lt.mp h; omega) (ti_le.mpr (by rw [show (9 : Int32).toInt = 9 from rfl]; omega)) (fun h => by have := ti_lt.mp h; omega) (ti_le.mpr (by rw [show (40 : Int32).toInt = 40 from rfl]; omega)) (ti_le.mpr (by rw [ti_add (by omega) (by omega), show (5000 : Int32).toInt = 5000 from rfl]; omega)) _) (cwV 4 hts gL_law_X3_pass rfl rfl rfl (by decide +kernel) ⟨Nat.le_of_ble_eq_true rfl, Nat.le_of_ble_eq_true rfl⟩) hK hN (lH_s hw) (by omega) sE_o kcX3 rfl hl.1 (Nat.le_of_ble_eq_true rfl) dL_law_164 hf) hw hA (fun H locs hw => ?_)
    refine lv_pop hx hb dL_law_167 rfl ?_
    refine lv_aload_n hx hb dL_law_168 rfl (lv_at hl 1 rfl) ?_
    refine lc_i (sr_S (As := [.ref (a 0)]) (rest := []) ⟨hx, hb, hml, hown, hts⟩ (zL_isHeld l D a cs (f_X3_days 0 y z v (1 + n0) σ) (fun k hk => ⟨(g.1.1.1 k hk).2.2.1, g.1.2.1 k hk⟩) _) (va_cwS 1 hts gL_law_L_isHeld rfl rfl rfl (by decide +kernel) ⟨Nat.le_of_ble_eq_true rfl, Nat.le_of_ble_eq_true rfl⟩) hK hN (lH_s hw) rfl hl.1 (Nat.le_of_ble_eq_true rfl) dL_law_169 hf) hw hA (fun H locs hw => ?_)
    refine lv_if_ne (tgt := 288) hx hb dL_law_172 (by decide) (fun _ => ?_) (fun h => absurd h (by decide))
    exact kk _ H locs (lG_up g.1 (by omega) (by omega) (by omega) (by have := g.2.2; omega)) g.2.1 hw
  refine lv_iload hx hb dL_law_138 (lv_at hl 4 rfl) ?_
  refine lv_bipush (v := 6) hx hb dL_law_140 (by decide) ?_
  refine lv_ishr hx hb dL_law_142 ?_
  refine lv_iconst (v := 5) hx hb dL_law_143 (by decide) ?_
  refine l_bl (n := 5) C0 (by decide) hw hl.1 (Nat.le_of_ble_eq_true rfl) dL_law_144 hf (fun t H locs ht0 ht1 hw => ?_)
  refine lv_if_ne (tgt := 163) hx hb dL_law_147 (by decide) (fun _ => ?_) (fun _ => ?_)
  · refine lv_iconst (v := 0) hx hb dL_law_163 (by decide) ?_
    exact join 0 H locs (by decide) (by decide) hw
  · refine lv_iload hx hb dL_law_150 (lv_at hl 4 rfl) ?_
    refine lv_bipush (v := 7) hx hb dL_law_152 (by decide) ?_
    refine lv_ishr hx hb dL_law_154 ?_
    refine lv_bipush (v := 41) hx hb dL_law_155 (by decide) ?_
    refine l_bl (n := 41) C0 (by decide) hw hl.1 (Nat.le_of_ble_eq_true rfl) dL_law_157 hf (fun v H locs hv0 hv1 hw => ?_)
    refine lv_goto (tgt := 164) hx hb dL_law_160 (by decide) ?_
    exact join v H locs hv0 (by rw [show (41 : Int32).toInt = 41 from rfl] at hv1; omega) hw
set_option maxHeartbeats 4000000 in
set_option maxRecDepth 100000 in
/-- a pan is harvested where it can be -/
theorem lr_harvest {p : Program} {e : Env} {s : State} {m : MethodId} {below : List Frame} {meth : Method} {c : Code} {l : Launch} {b L : Nat} {xs : Nat → Int32} (C0 : lw_At p s m meth c b L xs) {D : va_G} {a : Nat → Nat} {cs : Nat → ClassId} {cI : ClassId} (hm : lM D cs cI s) {w : va_W} {σ : sS} {H : Heap} {locs : List Loc} {cells slots : Nat} {Q : State → Prop} {ls : Array Slot} {o k q j : Nat} {x : Int32} (hk : k < 22) (hq : q < 3) (hj : j < 3) (hG : lG k σ) (hf : cells ≤ room_1.cells ∧ slots ≤ room_1.slots) (hw : lH D a cs w (lA s) s.heap σ H locs) (hl : lv_has ls 9 [(0, .ref b), (1, .ref (a 0)), (2, .ref o), (3, .int (nI k)), (4, .int x), (5, .int (nI (5 + q))), (6, .int (nI j))])
    (kk : ∀ (τ : sS) (H : Heap) (locs : List Loc), lG (k + 1) τ → gM σ τ → lH D a cs w (lA s) s.heap τ H locs → W p l e room_1 s m #[Value.ref b] below meth c H locs cells slots Q (F0 m 288 ls [])) : W p l e room_1 s m #[Value.ref b] below meth c H locs cells slots Q (F0 m 177 ls []) := by
  obtain ⟨hx, hb, hr, hml, hown0, hts0, hX, hbl, hlocks, hgv⟩ := id C0
  have hown : s.vm.findClass RL = some m.cls := hown0
  have hts : ∀ w ∈ wsL_law, w.before #[Value.ref b] s = true := fun w h => hts0 w (wsL_law_in w h)
  obtain ⟨hK, -, hN⟩ := id hm
  have hA : ∀ q : Nat, s.heap.size ≤ q → lA s q := fun _ h => h
  obtain ⟨hI, hd⟩ := id hG
  have hc : σ 0 3 = nI 3 := hI.2.2.2.2.1
  have hday0 : 0 ≤ (σ (1 + 0) 1).toInt := hI.2.2.2.1
  have c1 : (4410 : Int) * k ≤ 1000000 := by omega
  have c2 : (54540 : Int) * k ≤ 2000000 := by omega
  have c3 : (14634 : Int) * k ≤ 1000000 := by omega
  have same : lG (k + 1) σ := lG_up hI (by omega) (by omega) (by omega) (by omega)
  refine lv_aload_n hx hb dL_law_177 rfl (lv_at hl 1 rfl) ?_
  refine lv_iload hx hb dL_law_178 (lv_at hl 5 rfl) ?_
  refine lv_bipush (v := nI 6) hx hb dL_law_180 (by decide) ?_
  refine lc_i (sr_V (i := 0) (As := [.int (nI (5 + q)), .int (nI 6)]) (rest := []) ⟨hx, hb, hml, hown, hts⟩ (zX3_ofPond l D a cs σ (5 + q) (by omega) 6 (by decide) _) (cwV 2 hts gL_law_X3_ofPond rfl rfl rfl (by decide +kernel) ⟨Nat.le_of_ble_eq_true rfl, Nat.le_of_ble_eq_true rfl⟩) hK hN (lH_s hw) (by omega) sE_o kcX3 rfl hl.1 (Nat.le_of_ble_eq_true rfl) dL_law_182 hf) hw hA (fun H locs hw => ?_)
  refine lv_if_le (tgt := 288) hx hb dL_law_185 (by decide) (fun _ => kk σ H locs same gM_rf hw) (fun h6 => ?_)
  refine lv_aload_n hx hb dL_law_188 rfl (lv_at hl 1 rfl) ?_
  refine lv_iload hx hb dL_law_189 (lv_at hl 5 rfl) ?_
  refine lv_bipush (v := nI 10) hx hb dL_law_191 (by decide) ?_
  refine lc_i (sr_V (i := 0) (As := [.int (nI (5 + q)), .int (nI 10)]) (rest := []) ⟨hx, hb, hml, hown, hts⟩ (zX3_ofPond l D a cs σ (5 + q) (by omega) 10 (by decide) _) (cwV 2 hts gL_law_X3_ofPond rfl rfl rfl (by decide +kernel) ⟨Nat.le_of_ble_eq_true rfl, Nat.le_of_ble_eq_true rfl⟩) hK hN (lH_s hw) (by omega) sE_o kcX3 rfl hl.1 (Nat.le_of_ble_eq_true rfl) dL_law_193 hf) hw hA (fun H locs hw => ?_)
  refine lv_if_ne (tgt := 288) hx hb dL_law_196 (by decide) (fun _ => kk σ H locs same gM_rf hw) (fun h10 => ?_)
  have h6 : ¬ σ (5 + 8 * 0 + (5 + q)) 6 ≤ 0 := h6
  have h10 : f_X1_harv (σ (5 + 8 * 0 + (5 + q))) = 0 := h10
  have hcan : ¬ f_X1_canBeHarvested (σ (5 + 8 * 0 + (5 + q))) = 0 := by
    unfold f_X1_canBeHarvested
    unfold f_X1_harv at h10
    rw [if_neg h6]
    by_cases h11 : σ (5 + 8 * 0 + (5 + q)) 11 = 0
    · rw [if_pos h11]; decide
    · rw [if_neg h11] at h10; exact absurd h10 (by decide)
  have h6i : 1 ≤ (σ (5 + 8 * 0 + (5 + q)) 6).toInt := by
    have := mt ti_le.mpr h6
    rw [show (0 : Int32).toInt = 0 from rfl] at this
    omega
  have join : ∀ (v : Int32) (H : Heap) (locs : List Loc), lH D a cs w (lA s) s.heap σ H locs → W p l e room_1 s m #[Value.ref b] below meth c H locs cells slots Q (F0 m 218 ls [.int v, .int (nI (5 + q)), .ref (a 0)]) := by
    intro v H locs hw
    have g := gI_harvest (x := v) hI hq h6i (by omega) (by omega)
    refine lc_i (sr_V (i := 0) (As := [.int (nI (5 + q)), .int v]) (rest := []) ⟨hx, hb, hml, hown, hts⟩ (zX3_harvest l D a cs σ 3 (by decide) hc q hq v hcan _) (cwV 2 hts gL_law_X3_harvest rfl rfl rfl (by decide +kernel) ⟨Nat.le_of_ble_eq_true rfl, Nat.le_of_ble_eq_true rfl⟩) hK hN (lH_s hw) (by omega) sE_o kcX3 rfl hl.1 (Nat.le_of_ble_eq_true rfl) dL_law_218 hf) hw hA (fun H locs hw => ?_)
    refine lv_pop hx hb dL_law_221 rfl ?_
    refine lv_goto (tgt := 288) hx hb dL_law_222 (by decide) ?_
    exact kk _ H locs (lG_up g.1 (by omega) (by omega) (by omega) (by rw [g.2.2]; omega)) g.2.1 hw
  refine lv_aload_n hx hb dL_law_199 rfl (lv_at hl 1 rfl) ?_
  refine lv_iload hx hb dL_law_200 (lv_at hl 5 rfl) ?_
  refine lv_iload hx hb dL_law_202 (lv_at hl 4 rfl) ?_
  refine lv_iconst (v := 3) hx hb dL_law_204 (by decide) ?_
  refine lv_ishr hx hb dL_law_205 ?_
  refine lv_iconst (v := 2) hx hb dL_law_206 (by decide) ?_
  refine l_bl (n := 2) C0 (by decide) hw hl.1 (Nat.le_of_ble_eq_true rfl) dL_law_207 hf (fun t H locs ht0 ht1 hw => ?_)
  refine lv_if_ne (tgt := 217) hx hb dL_law_210 (by decide) (fun _ => ?_) (fun _ => ?_)
  · refine lv_iconst (v := 0) hx hb dL_law_217 (by decide) ?_
    exact join 0 H locs hw
  · refine lv_iconst (v := 1) hx hb dL_law_213 (by decide) ?_
    refine lv_goto (tgt := 218) hx hb dL_law_214 (by decide) ?_
    exact join 1 H locs hw
set_option maxHeartbeats 4000000 in
set_option maxRecDepth 100000 in
/-- a heap is washed where it has salt -/
theorem lr_wash {p : Program} {e : Env} {s : State} {m : MethodId} {below : List Frame} {meth : Method} {c : Code} {l : Launch} {b L : Nat} {xs : Nat → Int32} (C0 : lw_At p s m meth c b L xs) {D : va_G} {a : Nat → Nat} {cs : Nat → ClassId} {cI : ClassId} (hm : lM D cs cI s) {w : va_W} {σ : sS} {H : Heap} {locs : List Loc} {cells slots : Nat} {Q : State → Prop} {ls : Array Slot} {o k q j : Nat} {x : Int32} (hk : k < 22) (hq : q < 3) (hj : j < 3) (hG : lG k σ) (hf : cells ≤ room_1.cells ∧ slots ≤ room_1.slots) (hw : lH D a cs w (lA s) s.heap σ H locs) (hl : lv_has ls 9 [(0, .ref b), (1, .ref (a 0)), (2, .ref o), (3, .int (nI k)), (4, .int x), (5, .int (nI (5 + q))), (6, .int (nI j))])
    (kk : ∀ (τ : sS) (H : Heap) (locs : List Loc), lG (k + 1) τ → gM σ τ → lH D a cs w (lA s) s.heap τ H locs → W p l e room_1 s m #[Value.ref b] below meth c H locs cells slots Q (F0 m 288 ls [])) : W p l e room_1 s m #[Value.ref b] below meth c H locs cells slots Q (F0 m 225 ls []) := by
  obtain ⟨hx, hb, hr, hml, hown0, hts0, hX, hbl, hlocks, hgv⟩ := id C0
  have hown : s.vm.findClass RL = some m.cls := hown0
  have hts : ∀ w ∈ wsL_law, w.before #[Value.ref b] s = true := fun w h => hts0 w (wsL_law_in w h)
  obtain ⟨hK, -, hN⟩ := id hm
  have hA : ∀ q : Nat, s.heap.size ≤ q → lA s q := fun _ h => h
  obtain ⟨hI, hd⟩ := id hG
  have hc : σ 0 3 = nI 3 := hI.2.2.2.2.1
  have hday0 : 0 ≤ (σ (1 + 0) 1).toInt := hI.2.2.2.1
  have c1 : (4410 : Int) * k ≤ 1000000 := by omega
  have c2 : (54540 : Int) * k ≤ 2000000 := by omega
  have c3 : (14634 : Int) * k ≤ 1000000 := by omega
  have same : lG (k + 1) σ := lG_up hI (by omega) (by omega) (by omega) (by omega)
  refine lv_aload_n hx hb dL_law_225 rfl (lv_at hl 1 rfl) ?_
  refine lv_iload hx hb dL_law_226 (lv_at hl 6 rfl) ?_
  refine lv_iconst (v := nI 0) hx hb dL_law_228 (by decide) ?_
  refine lc_i (sr_V (i := 0) (As := [.int (nI j), .int (nI 0)]) (rest := []) ⟨hx, hb, hml, hown, hts⟩ (zX3_ofFamily l D a cs σ 3 (by decide) hc j hj 0 (by decide) _) (cwV 2 hts gL_law_X3_ofFamily rfl rfl rfl (by decide +kernel) ⟨Nat.le_of_ble_eq_true rfl, Nat.le_of_ble_eq_true rfl⟩) hK hN (lH_s hw) (by omega) sE_o kcX3 rfl hl.1 (Nat.le_of_ble_eq_true rfl) dL_law_229 hf) hw hA (fun H locs hw => ?_)
  refine lv_if_le (tgt := 288) hx hb dL_law_232 (by decide) (fun _ => kk σ H locs same gM_rf hw) (fun h1 => ?_)
  have h1 : ¬ σ (22 + j) 1 ≤ 0 := h1
  have hs : 1 ≤ σ (22 + j) 1 := ti_le.mpr (by
    have := mt ti_le.mpr h1
    rw [show (0 : Int32).toInt = 0 from rfl] at this
    rw [show (1 : Int32).toInt = 1 from rfl]
    omega)
  have g := gI_wash hI hj (by omega) (by omega)
  refine lv_aload_n hx hb dL_law_235 rfl (lv_at hl 1 rfl) ?_
  refine lv_iload hx hb dL_law_236 (lv_at hl 6 rfl) ?_
  refine lc_i (sr_V (i := 0) (As := [.int (nI j)]) (rest := []) ⟨hx, hb, hml, hown, hts⟩ (zX3_wash l D a cs σ 3 (by decide) hc j hj hs _) (cwV 1 hts gL_law_X3_wash rfl rfl rfl (by decide +kernel) ⟨Nat.le_of_ble_eq_true rfl, Nat.le_of_ble_eq_true rfl⟩) hK hN (lH_s hw) (by omega) sE_o kcX3 rfl hl.1 (Nat.le_of_ble_eq_true rfl) dL_law_238 hf) hw hA (fun H locs hw => ?_)
  refine lv_pop hx hb dL_law_241 rfl ?_
  refine lv_goto (tgt := 288) hx hb dL_law_242 (by decide) ?_
  exact kk _ H locs (lG_up g.1 (by omega) (by omega) (by omega) (by rw [g.2.2]; omega)) g.2.1 hw
set_option maxHeartbeats 4000000 in
set_option maxRecDepth 100000 in
/-- a right grows less -/
theorem lr_right {p : Program} {e : Env} {s : State} {m : MethodId} {below : List Frame} {meth : Method} {c : Code} {l : Launch} {b L : Nat} {xs : Nat → Int32} (C0 : lw_At p s m meth c b L xs) {D : va_G} {a : Nat → Nat} {cs : Nat → ClassId} {cI : ClassId} (hm : lM D cs cI s) {w : va_W} {σ : sS} {H : Heap} {locs : List Loc} {cells slots : Nat} {Q : State → Prop} {ls : Array Slot} {o k q j : Nat} {x : Int32} (hk : k < 22) (hq : q < 3) (hj : j < 3) (hG : lG k σ) (hf : cells ≤ room_1.cells ∧ slots ≤ room_1.slots) (hw : lH D a cs w (lA s) s.heap σ H locs) (hl : lv_has ls 9 [(0, .ref b), (1, .ref (a 0)), (2, .ref o), (3, .int (nI k)), (4, .int x), (5, .int (nI (5 + q))), (6, .int (nI j))])
    (kk : ∀ (τ : sS) (H : Heap) (locs : List Loc), lG (k + 1) τ → gM σ τ → lH D a cs w (lA s) s.heap τ H locs → W p l e room_1 s m #[Value.ref b] below meth c H locs cells slots Q (F0 m 288 ls [])) : W p l e room_1 s m #[Value.ref b] below meth c H locs cells slots Q (F0 m 245 ls []) := by
  obtain ⟨hx, hb, hr, hml, hown0, hts0, hX, hbl, hlocks, hgv⟩ := id C0
  have hown : s.vm.findClass RL = some m.cls := hown0
  have hts : ∀ w ∈ wsL_law, w.before #[Value.ref b] s = true := fun w h => hts0 w (wsL_law_in w h)
  obtain ⟨hK, -, hN⟩ := id hm
  have hA : ∀ q : Nat, s.heap.size ≤ q → lA s q := fun _ h => h
  obtain ⟨hI, hd⟩ := id hG
  have hc : σ 0 3 = nI 3 := hI.2.2.2.2.1
  have hday0 : 0 ≤ (σ (1 + 0) 1).toInt := hI.2.2.2.1
  have c1 : (4410 : Int) * k ≤ 1000000 := by omega
  have c2 : (54540 : Int) * k ≤ 2000000 := by omega
  have c3 : (14634 : Int) * k ≤ 1000000 := by omega
  have same : lG (k + 1) σ := lG_up hI (by omega) (by omega) (by omega) (by omega)
  have hr0 : 0 ≤ (σ (28 + j) q).toInt := hI.2.2.2.2.2.2.1 j hj q hq
  have hr12 : (σ (28 + j) q).toInt ≤ 12 := by
    have h0 := hI.2.2.2.2.2.2.1 0 (by omega) q hq
    have h1 := hI.2.2.2.2.2.2.1 1 (by omega) q hq
    have h2 := hI.2.2.2.2.2.2.1 2 (by omega) q hq
    have hs := hI.2.2.2.2.2.2.2.1 q hq
    rcases (show j = 0 ∨ j = 1 ∨ j = 2 by omega) with rfl | rfl | rfl <;> omega
  have h1r : ((1 : Int32) + σ (28 + j) q).toInt = 1 + (σ (28 + j) q).toInt := by
    rw [ti_add (by rw [show (1 : Int32).toInt = 1 from rfl]; omega) (by rw [show (1 : Int32).toInt = 1 from rfl]; omega)]; rfl
  refine lv_aload_n hx hb dL_law_245 rfl (lv_at hl 1 rfl) ?_
  refine lv_iload hx hb dL_law_246 (lv_at hl 6 rfl) ?_
  refine lv_iload hx hb dL_law_248 (lv_at hl 5 rfl) ?_
  refine lv_iload hx hb dL_law_250 (lv_at hl 4 rfl) ?_
  refine lv_iconst (v := 3) hx hb dL_law_252 (by decide) ?_
  refine lv_ishr hx hb dL_law_253 ?_
  refine lv_iconst (v := 1) hx hb dL_law_254 (by decide) ?_
  refine lv_aload_n hx hb dL_law_255 rfl (lv_at hl 1 rfl) ?_
  refine lv_iload hx hb dL_law_256 (lv_at hl 6 rfl) ?_
  refine lv_iload hx hb dL_law_258 (lv_at hl 5 rfl) ?_
  refine lc_i (sr_V (i := 0) (As := [.int (nI j), .int (nI (5 + q))]) (rest := [.int 1, .int (x >>> ((3 : Int32) &&& 31)), .int (nI (5 + q)), .int (nI j), .ref (a 0)]) ⟨hx, hb, hml, hown, hts⟩ (zX3_rightOf l D a cs σ 3 (by decide) hc j hj q hq _) (cwV 2 hts gL_law_X3_rightOf rfl rfl rfl (by decide +kernel) ⟨Nat.le_of_ble_eq_true rfl, Nat.le_of_ble_eq_true rfl⟩) hK hN (lH_s hw) (by omega) sE_o kcX3 rfl hl.1 (Nat.le_of_ble_eq_true rfl) dL_law_260 hf) hw hA (fun H locs hw => ?_)
  refine lv_iadd hx hb dL_law_263 ?_
  refine l_bl (n := 1 + σ (28 + j) q) C0 (by omega) hw hl.1 (Nat.le_of_ble_eq_true rfl) dL_law_264 hf (fun v H locs hv0 hv1 hw => ?_)
  have g := gI_right (x := v) hI hj hq hv0 (by omega)
  refine lc_i (sr_V (i := 0) (As := [.int (nI j), .int (nI (5 + q)), .int v]) (rest := []) ⟨hx, hb, hml, hown, hts⟩ (zX3_right l D a cs σ 3 (by decide) hc j hj q hq v (fun h => by have := ti_lt.mp h; rw [show (0 : Int32).toInt = 0 from rfl] at this; omega) (ti_le.mpr (by rw [show (12 : Int32).toInt = 12 from rfl]; omega)) g.2.2.2 _) (cwV 3 hts gL_law_X3_right rfl rfl rfl (by decide +kernel) ⟨Nat.le_of_ble_eq_true rfl, Nat.le_of_ble_eq_true rfl⟩) hK hN (lH_s hw) (by omega) sE_o kcX3 rfl hl.1 (Nat.le_of_ble_eq_true rfl) dL_law_267 hf) hw hA (fun H locs hw => ?_)
  refine lv_pop hx hb dL_law_270 rfl ?_
  refine lv_goto (tgt := 288) hx hb dL_law_271 (by decide) ?_
  exact kk _ H locs (lG_up g.1 (by omega) (by omega) (by omega) (by rw [g.2.2.1]; omega)) g.2.1 hw
set_option maxHeartbeats 4000000 in
set_option maxRecDepth 100000 in
/-- a pond is skimmed -/
theorem lr_skim {p : Program} {e : Env} {s : State} {m : MethodId} {below : List Frame} {meth : Method} {c : Code} {l : Launch} {b L : Nat} {xs : Nat → Int32} (C0 : lw_At p s m meth c b L xs) {D : va_G} {a : Nat → Nat} {cs : Nat → ClassId} {cI : ClassId} (hm : lM D cs cI s) {w : va_W} {σ : sS} {H : Heap} {locs : List Loc} {cells slots : Nat} {Q : State → Prop} {ls : Array Slot} {o k q j : Nat} {x : Int32} (hk : k < 22) (hq : q < 3) (hj : j < 3) (hG : lG k σ) (hf : cells ≤ room_1.cells ∧ slots ≤ room_1.slots) (hw : lH D a cs w (lA s) s.heap σ H locs) (hl : lv_has ls 9 [(0, .ref b), (1, .ref (a 0)), (2, .ref o), (3, .int (nI k)), (4, .int x), (5, .int (nI (5 + q))), (6, .int (nI j))])
    (kk : ∀ (τ : sS) (H : Heap) (locs : List Loc), lG (k + 1) τ → gM σ τ → lH D a cs w (lA s) s.heap τ H locs → W p l e room_1 s m #[Value.ref b] below meth c H locs cells slots Q (F0 m 288 ls [])) : W p l e room_1 s m #[Value.ref b] below meth c H locs cells slots Q (F0 m 274 ls []) := by
  obtain ⟨hx, hb, hr, hml, hown0, hts0, hX, hbl, hlocks, hgv⟩ := id C0
  have hown : s.vm.findClass RL = some m.cls := hown0
  have hts : ∀ w ∈ wsL_law, w.before #[Value.ref b] s = true := fun w h => hts0 w (wsL_law_in w h)
  obtain ⟨hK, -, hN⟩ := id hm
  have hA : ∀ q : Nat, s.heap.size ≤ q → lA s q := fun _ h => h
  obtain ⟨hI, hd⟩ := id hG
  have hc : σ 0 3 = nI 3 := hI.2.2.2.2.1
  have hday0 : 0 ≤ (σ (1 + 0) 1).toInt := hI.2.2.2.1
  have c1 : (4410 : Int) * k ≤ 1000000 := by omega
  have c2 : (54540 : Int) * k ≤ 2000000 := by omega
  have c3 : (14634 : Int) * k ≤ 1000000 := by omega
  have same : lG (k + 1) σ := lG_up hI (by omega) (by omega) (by omega) (by omega)
  refine lv_aload_n hx hb dL_law_274 rfl (lv_at hl 1 rfl) ?_
  refine lv_iload hx hb dL_law_275 (lv_at hl 4 rfl) ?_
  refine lv_iconst (v := 3) hx hb dL_law_277 (by decide) ?_
  refine lv_ishr hx hb dL_law_278 ?_
  refine lv_bipush (v := 8) hx hb dL_law_279 (by decide) ?_
  refine l_bl (n := 8) C0 (by decide) hw hl.1 (Nat.le_of_ble_eq_true rfl) dL_law_281 hf (fun d H locs hd0 hd1 hw => ?_)
  obtain ⟨y, rfl, hy⟩ : ∃ n : Nat, d = nI n ∧ n < 8 := ⟨d.toInt.toNat, nat_of hd0, by rw [show (8 : Int32).toInt = 8 from rfl] at hd1; omega⟩
  have g := gI_skim hI hy (by omega)
  refine lc_i (sr_V (i := 0) (As := [.int (nI y)]) (rest := []) ⟨hx, hb, hml, hown, hts⟩ (zX3_skim l D a cs σ y hy _) (cwV 1 hts gL_law_X3_skim rfl rfl rfl (by decide +kernel) ⟨Nat.le_of_ble_eq_true rfl, Nat.le_of_ble_eq_true rfl⟩) hK hN (lH_s hw) (by omega) sE_o kcX3 rfl hl.1 (Nat.le_of_ble_eq_true rfl) dL_law_284 hf) hw hA (fun H locs hw => ?_)
  refine lv_pop hx hb dL_law_287 rfl ?_
  exact kk _ H locs (lG_up g.1 (by omega) (by omega) (by omega) (by rw [g.2.2]; omega)) g.2.1 hw
