/-! The law's cases, each road. -/
set_option maxHeartbeats 4000000 in
set_option maxRecDepth 100000 in
theorem ll_area_1 {p : Program} {e : Env} {s : State} {m : MethodId} {below : List Frame} {meth : Method} {c : Code} {l : Launch} (hst : l.stackTraces = false) {b : Nat} {xs : Nat → Int32} (C0 : lw_At p s m meth c b 5 xs) {D : va_G} {a : Nat → Nat} {cs : Nat → ClassId} {a' : Nat → Nat} {cs' : Nat → ClassId} {o : Nat} {cJ : ClassId} {fl : Nat → Int64} (hm : lM D cs cs' cJ s) {H : Heap} {locs : List Loc} (hw : lW D a cs a' cs' o cJ fl s H locs) {ls : Array Slot} (hl : lv_has ls 9 [(0, .ref b), (1, .ref (a 0)), (2, .ref (a' 10)), (3, .ref o), (4, .int 0)]) (hp : xs 1 < 0 ∨ ¬ xs 1 < 0 ∧ ¬ xs 1 < 8) (hp2 : g_X6_isNoPond (xs 1) = 1) : W p l e room_1 s m #[Value.ref b] below meth c H locs 47 402 (lw_Z below #[Value.ref b] s) (F0 m 148 ls []) := by
  obtain ⟨hx, hb, hr, hml, hown, hts0, hX, hbl, hlocks, hgv⟩ := id C0
  have hts : ∀ w ∈ wsL_law, w.before #[Value.ref b] s = true := fun w h => hts0 w (wsL_law_in w h)
  have hown : s.vm.findClass RL = some m.cls := hown
  have hA : ∀ q, s.heap.size ≤ q → lA s q := fun _ h => h
  have hbA : ¬ lA s b := Nat.not_le.mpr hbl
  refine lv_aload_n hx hb dL_law_148 rfl (lv_at hl 1 rfl) ?_
  refine l_ld (k := 1) (v := xs 1) hx hb hX hbl hbA hw.2.2 (lv_at hl 0 rfl) (lv_at hl 4 rfl) rfl (by decide) dL_law_149 dL_law_150 dL_law_152 (by decide) dL_law_153 dL_law_154 ?_
  refine l_ld (k := 2) (v := xs 2) hx hb hX hbl hbA hw.2.2 (lv_at hl 0 rfl) (lv_at hl 4 rfl) rfl (by decide) dL_law_155 dL_law_156 dL_law_158 (by decide) dL_law_159 dL_law_160 ?_
  refine lv_aload_n hx hb dL_law_161 rfl (lv_at hl 3 rfl) ?_
  refine lh_x (As := [.ref (a 0), .int (xs 1), .int (xs 2), .ref o]) ⟨hx, hb, hml, hown, hts⟩ (zL_area_x1 l hst D a cs f_new o cJ fl (lW_so hw) (xs 1) hp (xs 2) _) (vx_cwSW 4 hts gL_law_L_area rfl rfl rfl (by decide +kernel) ⟨Nat.le_of_ble_eq_true rfl, Nat.le_of_ble_eq_true rfl⟩) hm hw rfl hl.1 dL_law_162 ⟨Nat.le_of_ble_eq_true rfl, Nat.le_of_ble_eq_true rfl⟩ (fun H locs hw => ?_)
  refine lv_istore (lv' := [(5, .int 1), (0, .ref b), (1, .ref (a 0)), (2, .ref (a' 10)), (3, .ref o), (4, .int 0)]) hx hb dL_law_165 hl (by decide) rfl (fun ls hl => ?_)
  refine lv_aload_n hx hb dL_law_167 rfl (lv_at hl 3 rfl) ?_
  refine l_ld (k := 1) (v := xs 1) hx hb hX hbl hbA hw.2.2 (lv_at hl 1 rfl) (lv_at hl 5 rfl) rfl (by decide) dL_law_168 dL_law_169 dL_law_171 (by decide) dL_law_172 dL_law_173 ?_
  refine l_ld (k := 2) (v := xs 2) hx hb hX hbl hbA hw.2.2 (lv_at hl 1 rfl) (lv_at hl 5 rfl) rfl (by decide) dL_law_174 dL_law_175 dL_law_177 (by decide) dL_law_178 dL_law_179 ?_
  refine mc_i (mr_V (i := 10) (As := [.int (xs 1), .int (xs 2)]) (rest := []) ⟨hx, hb, hml, hown, hts⟩ (zX6_area_1 l D a' cs' 12 (by omega) m_row0 (xs 1) (xs 2) hp2 _) (cwV 2 hts gL_law_X6_area rfl rfl rfl (by decide +kernel) ⟨Nat.le_of_ble_eq_true rfl, Nat.le_of_ble_eq_true rfl⟩) hm.2.1 hm.2.2.2.2.1 hw (by omega) mE_o kcX6 rfl hl.1 (Nat.le_of_ble_eq_true rfl) dL_law_180 ⟨Nat.le_of_ble_eq_true rfl, Nat.le_of_ble_eq_true rfl⟩) hw hA (fun H locs hw => ?_)
  refine lv_topi (fun v6 ev6 => ?_)
  refine lv_istore (lv' := [(6, .int v6), (5, .int 1), (0, .ref b), (1, .ref (a 0)), (2, .ref (a' 10)), (3, .ref o), (4, .int 0)]) hx hb dL_law_183 hl (by decide) rfl (fun ls hl => ?_)
  refine lv_aload_n hx hb dL_law_185 rfl (lv_at hl 4 rfl) ?_
  refine mc_i (mr_V (i := 10) (As := []) (rest := []) ⟨hx, hb, hml, hown, hts⟩ (zX6_thrown l D a' cs' 12 (by omega) _ _) (cwV 0 hts gL_law_X6_thrown rfl rfl rfl (by decide +kernel) ⟨Nat.le_of_ble_eq_true rfl, Nat.le_of_ble_eq_true rfl⟩) hm.2.1 hm.2.2.2.2.1 hw (by omega) mE_o kcX6 rfl hl.1 (Nat.le_of_ble_eq_true rfl) dL_law_186 ⟨Nat.le_of_ble_eq_true rfl, Nat.le_of_ble_eq_true rfl⟩) hw hA (fun H locs hw => ?_)
  refine w_top0 (v := 1) (rfl) ?_
  refine lv_iload hx hb dL_law_189 (lv_at hl 1 rfl) ?_
  refine lv_icmp_eq (tgt := 196) hx hb dL_law_191 (by decide) (fun _ => ?_) (fun c1 => absurd rfl c1)
  refine lv_iload hx hb dL_law_196 (lv_at hl 1 rfl) ?_
  refine lv_if_ne (tgt := 213) hx hb dL_law_198 (by decide) (fun _ => ?_) (fun c1 => absurd c1 (by decide))
  refine lv_goto (tgt := 1793) hx hb dL_law_213 (by decide) ?_
  refine W.widen (k := 600002) (n := 7302232) (Nat.le_of_ble_eq_true rfl) (Nat.le_of_ble_eq_true rfl) ?_
  exact l_fin C0 hw.2.2 (lv_sub hl [2, 6] rfl)
set_option maxHeartbeats 4000000 in
set_option maxRecDepth 100000 in
theorem ll_area_2 {p : Program} {e : Env} {s : State} {m : MethodId} {below : List Frame} {meth : Method} {c : Code} {l : Launch} (hst : l.stackTraces = false) {b : Nat} {xs : Nat → Int32} (C0 : lw_At p s m meth c b 5 xs) {D : va_G} {a : Nat → Nat} {cs : Nat → ClassId} {a' : Nat → Nat} {cs' : Nat → ClassId} {o : Nat} {cJ : ClassId} {fl : Nat → Int64} (hm : lM D cs cs' cJ s) {H : Heap} {locs : List Loc} (hw : lW D a cs a' cs' o cJ fl s H locs) {ls : Array Slot} (hl : lv_has ls 9 [(0, .ref b), (1, .ref (a 0)), (2, .ref (a' 10)), (3, .ref o), (4, .int 0)]) (k : Nat) (hk : k < 8) (hk1 : xs 1 = nI k) (h1 : xs 2 < 1) (hy : g_X6_isIn (xs 2) 1 9 = 0) : W p l e room_1 s m #[Value.ref b] below meth c H locs 47 402 (lw_Z below #[Value.ref b] s) (F0 m 148 ls []) := by
  obtain ⟨hx, hb, hr, hml, hown, hts0, hX, hbl, hlocks, hgv⟩ := id C0
  have hts : ∀ w ∈ wsL_law, w.before #[Value.ref b] s = true := fun w h => hts0 w (wsL_law_in w h)
  have hown : s.vm.findClass RL = some m.cls := hown
  have hA : ∀ q, s.heap.size ≤ q → lA s q := fun _ h => h
  have hbA : ¬ lA s b := Nat.not_le.mpr hbl
  refine lv_aload_n hx hb dL_law_148 rfl (lv_at hl 1 rfl) ?_
  refine l_ld (k := 1) (v := nI k) hx hb hX hbl hbA hw.2.2 (lv_at hl 0 rfl) (lv_at hl 4 rfl) hk1 (by decide) dL_law_149 dL_law_150 dL_law_152 (by decide) dL_law_153 dL_law_154 ?_
  refine l_ld (k := 2) (v := xs 2) hx hb hX hbl hbA hw.2.2 (lv_at hl 0 rfl) (lv_at hl 4 rfl) rfl (by decide) dL_law_155 dL_law_156 dL_law_158 (by decide) dL_law_159 dL_law_160 ?_
  refine lv_aload_n hx hb dL_law_161 rfl (lv_at hl 3 rfl) ?_
  refine lh_x (As := [.ref (a 0), .int (nI k), .int (xs 2), .ref o]) ⟨hx, hb, hml, hown, hts⟩ (zL_area_x2 l hst D a cs f_new o cJ fl (lW_so hw) k hk (xs 2) h1 _) (vx_cwSW 4 hts gL_law_L_area rfl rfl rfl (by decide +kernel) ⟨Nat.le_of_ble_eq_true rfl, Nat.le_of_ble_eq_true rfl⟩) hm hw rfl hl.1 dL_law_162 ⟨Nat.le_of_ble_eq_true rfl, Nat.le_of_ble_eq_true rfl⟩ (fun H locs hw => ?_)
  refine lv_istore (lv' := [(5, .int 2), (0, .ref b), (1, .ref (a 0)), (2, .ref (a' 10)), (3, .ref o), (4, .int 0)]) hx hb dL_law_165 hl (by decide) rfl (fun ls hl => ?_)
  refine lv_aload_n hx hb dL_law_167 rfl (lv_at hl 3 rfl) ?_
  refine l_ld (k := 1) (v := nI k) hx hb hX hbl hbA hw.2.2 (lv_at hl 1 rfl) (lv_at hl 5 rfl) hk1 (by decide) dL_law_168 dL_law_169 dL_law_171 (by decide) dL_law_172 dL_law_173 ?_
  refine l_ld (k := 2) (v := xs 2) hx hb hX hbl hbA hw.2.2 (lv_at hl 1 rfl) (lv_at hl 5 rfl) rfl (by decide) dL_law_174 dL_law_175 dL_law_177 (by decide) dL_law_178 dL_law_179 ?_
  refine mc_i (mr_V (i := 10) (As := [.int (nI k), .int (xs 2)]) (rest := []) ⟨hx, hb, hml, hown, hts⟩ (zX6_area_2 l D a' cs' 12 (by omega) m_row0 k hk (xs 2) hy _) (cwV 2 hts gL_law_X6_area rfl rfl rfl (by decide +kernel) ⟨Nat.le_of_ble_eq_true rfl, Nat.le_of_ble_eq_true rfl⟩) hm.2.1 hm.2.2.2.2.1 hw (by omega) mE_o kcX6 rfl hl.1 (Nat.le_of_ble_eq_true rfl) dL_law_180 ⟨Nat.le_of_ble_eq_true rfl, Nat.le_of_ble_eq_true rfl⟩) hw hA (fun H locs hw => ?_)
  refine lv_topi (fun v6 ev6 => ?_)
  refine lv_istore (lv' := [(6, .int v6), (5, .int 2), (0, .ref b), (1, .ref (a 0)), (2, .ref (a' 10)), (3, .ref o), (4, .int 0)]) hx hb dL_law_183 hl (by decide) rfl (fun ls hl => ?_)
  refine lv_aload_n hx hb dL_law_185 rfl (lv_at hl 4 rfl) ?_
  refine mc_i (mr_V (i := 10) (As := []) (rest := []) ⟨hx, hb, hml, hown, hts⟩ (zX6_thrown l D a' cs' 12 (by omega) _ _) (cwV 0 hts gL_law_X6_thrown rfl rfl rfl (by decide +kernel) ⟨Nat.le_of_ble_eq_true rfl, Nat.le_of_ble_eq_true rfl⟩) hm.2.1 hm.2.2.2.2.1 hw (by omega) mE_o kcX6 rfl hl.1 (Nat.le_of_ble_eq_true rfl) dL_law_186 ⟨Nat.le_of_ble_eq_true rfl, Nat.le_of_ble_eq_true rfl⟩) hw hA (fun H locs hw => ?_)
  refine w_top0 (v := 2) (rfl) ?_
  refine lv_iload hx hb dL_law_189 (lv_at hl 1 rfl) ?_
  refine lv_icmp_eq (tgt := 196) hx hb dL_law_191 (by decide) (fun _ => ?_) (fun c1 => absurd rfl c1)
  refine lv_iload hx hb dL_law_196 (lv_at hl 1 rfl) ?_
  refine lv_if_ne (tgt := 213) hx hb dL_law_198 (by decide) (fun _ => ?_) (fun c1 => absurd c1 (by decide))
  refine lv_goto (tgt := 1793) hx hb dL_law_213 (by decide) ?_
  refine W.widen (k := 600002) (n := 7302232) (Nat.le_of_ble_eq_true rfl) (Nat.le_of_ble_eq_true rfl) ?_
  exact l_fin C0 hw.2.2 (lv_sub hl [2, 6] rfl)
set_option maxHeartbeats 4000000 in
set_option maxRecDepth 100000 in
theorem ll_area_3 {p : Program} {e : Env} {s : State} {m : MethodId} {below : List Frame} {meth : Method} {c : Code} {l : Launch} (hst : l.stackTraces = false) {b : Nat} {xs : Nat → Int32} (C0 : lw_At p s m meth c b 5 xs) {D : va_G} {a : Nat → Nat} {cs : Nat → ClassId} {a' : Nat → Nat} {cs' : Nat → ClassId} {o : Nat} {cJ : ClassId} {fl : Nat → Int64} (hm : lM D cs cs' cJ s) {H : Heap} {locs : List Loc} (hw : lW D a cs a' cs' o cJ fl s H locs) {ls : Array Slot} (hl : lv_has ls 9 [(0, .ref b), (1, .ref (a 0)), (2, .ref (a' 10)), (3, .ref o), (4, .int 0)]) (k : Nat) (hk : k < 8) (hk1 : xs 1 = nI k) (h1 : ¬ xs 2 < 1) (h2 : ¬ xs 2 ≤ 9) (hy : g_X6_isIn (xs 2) 1 9 = 0) : W p l e room_1 s m #[Value.ref b] below meth c H locs 47 402 (lw_Z below #[Value.ref b] s) (F0 m 148 ls []) := by
  obtain ⟨hx, hb, hr, hml, hown, hts0, hX, hbl, hlocks, hgv⟩ := id C0
  have hts : ∀ w ∈ wsL_law, w.before #[Value.ref b] s = true := fun w h => hts0 w (wsL_law_in w h)
  have hown : s.vm.findClass RL = some m.cls := hown
  have hA : ∀ q, s.heap.size ≤ q → lA s q := fun _ h => h
  have hbA : ¬ lA s b := Nat.not_le.mpr hbl
  refine lv_aload_n hx hb dL_law_148 rfl (lv_at hl 1 rfl) ?_
  refine l_ld (k := 1) (v := nI k) hx hb hX hbl hbA hw.2.2 (lv_at hl 0 rfl) (lv_at hl 4 rfl) hk1 (by decide) dL_law_149 dL_law_150 dL_law_152 (by decide) dL_law_153 dL_law_154 ?_
  refine l_ld (k := 2) (v := xs 2) hx hb hX hbl hbA hw.2.2 (lv_at hl 0 rfl) (lv_at hl 4 rfl) rfl (by decide) dL_law_155 dL_law_156 dL_law_158 (by decide) dL_law_159 dL_law_160 ?_
  refine lv_aload_n hx hb dL_law_161 rfl (lv_at hl 3 rfl) ?_
  refine lh_x (As := [.ref (a 0), .int (nI k), .int (xs 2), .ref o]) ⟨hx, hb, hml, hown, hts⟩ (zL_area_x3 l hst D a cs f_new o cJ fl (lW_so hw) k hk (xs 2) h1 h2 _) (vx_cwSW 4 hts gL_law_L_area rfl rfl rfl (by decide +kernel) ⟨Nat.le_of_ble_eq_true rfl, Nat.le_of_ble_eq_true rfl⟩) hm hw rfl hl.1 dL_law_162 ⟨Nat.le_of_ble_eq_true rfl, Nat.le_of_ble_eq_true rfl⟩ (fun H locs hw => ?_)
  refine lv_istore (lv' := [(5, .int 2), (0, .ref b), (1, .ref (a 0)), (2, .ref (a' 10)), (3, .ref o), (4, .int 0)]) hx hb dL_law_165 hl (by decide) rfl (fun ls hl => ?_)
  refine lv_aload_n hx hb dL_law_167 rfl (lv_at hl 3 rfl) ?_
  refine l_ld (k := 1) (v := nI k) hx hb hX hbl hbA hw.2.2 (lv_at hl 1 rfl) (lv_at hl 5 rfl) hk1 (by decide) dL_law_168 dL_law_169 dL_law_171 (by decide) dL_law_172 dL_law_173 ?_
  refine l_ld (k := 2) (v := xs 2) hx hb hX hbl hbA hw.2.2 (lv_at hl 1 rfl) (lv_at hl 5 rfl) rfl (by decide) dL_law_174 dL_law_175 dL_law_177 (by decide) dL_law_178 dL_law_179 ?_
  refine mc_i (mr_V (i := 10) (As := [.int (nI k), .int (xs 2)]) (rest := []) ⟨hx, hb, hml, hown, hts⟩ (zX6_area_2 l D a' cs' 12 (by omega) m_row0 k hk (xs 2) hy _) (cwV 2 hts gL_law_X6_area rfl rfl rfl (by decide +kernel) ⟨Nat.le_of_ble_eq_true rfl, Nat.le_of_ble_eq_true rfl⟩) hm.2.1 hm.2.2.2.2.1 hw (by omega) mE_o kcX6 rfl hl.1 (Nat.le_of_ble_eq_true rfl) dL_law_180 ⟨Nat.le_of_ble_eq_true rfl, Nat.le_of_ble_eq_true rfl⟩) hw hA (fun H locs hw => ?_)
  refine lv_topi (fun v6 ev6 => ?_)
  refine lv_istore (lv' := [(6, .int v6), (5, .int 2), (0, .ref b), (1, .ref (a 0)), (2, .ref (a' 10)), (3, .ref o), (4, .int 0)]) hx hb dL_law_183 hl (by decide) rfl (fun ls hl => ?_)
  refine lv_aload_n hx hb dL_law_185 rfl (lv_at hl 4 rfl) ?_
  refine mc_i (mr_V (i := 10) (As := []) (rest := []) ⟨hx, hb, hml, hown, hts⟩ (zX6_thrown l D a' cs' 12 (by omega) _ _) (cwV 0 hts gL_law_X6_thrown rfl rfl rfl (by decide +kernel) ⟨Nat.le_of_ble_eq_true rfl, Nat.le_of_ble_eq_true rfl⟩) hm.2.1 hm.2.2.2.2.1 hw (by omega) mE_o kcX6 rfl hl.1 (Nat.le_of_ble_eq_true rfl) dL_law_186 ⟨Nat.le_of_ble_eq_true rfl, Nat.le_of_ble_eq_true rfl⟩) hw hA (fun H locs hw => ?_)
  refine w_top0 (v := 2) (rfl) ?_
  refine lv_iload hx hb dL_law_189 (lv_at hl 1 rfl) ?_
  refine lv_icmp_eq (tgt := 196) hx hb dL_law_191 (by decide) (fun _ => ?_) (fun c1 => absurd rfl c1)
  refine lv_iload hx hb dL_law_196 (lv_at hl 1 rfl) ?_
  refine lv_if_ne (tgt := 213) hx hb dL_law_198 (by decide) (fun _ => ?_) (fun c1 => absurd c1 (by decide))
  refine lv_goto (tgt := 1793) hx hb dL_law_213 (by decide) ?_
  refine W.widen (k := 600002) (n := 7302232) (Nat.le_of_ble_eq_true rfl) (Nat.le_of_ble_eq_true rfl) ?_
  exact l_fin C0 hw.2.2 (lv_sub hl [2, 6] rfl)
set_option maxHeartbeats 4000000 in
set_option maxRecDepth 100000 in
theorem ll_area_4 {p : Program} {e : Env} {s : State} {m : MethodId} {below : List Frame} {meth : Method} {c : Code} {l : Launch} (hst : l.stackTraces = false) {b : Nat} {xs : Nat → Int32} (C0 : lw_At p s m meth c b 5 xs) {D : va_G} {a : Nat → Nat} {cs : Nat → ClassId} {a' : Nat → Nat} {cs' : Nat → ClassId} {o : Nat} {cJ : ClassId} {fl : Nat → Int64} (hm : lM D cs cs' cJ s) {H : Heap} {locs : List Loc} (hw : lW D a cs a' cs' o cJ fl s H locs) {ls : Array Slot} (hl : lv_has ls 9 [(0, .ref b), (1, .ref (a 0)), (2, .ref (a' 10)), (3, .ref o), (4, .int 0)]) (k : Nat) (hk : k < 8) (hk1 : xs 1 = nI k) (h1 : ¬ xs 2 < 1) (h2 : xs 2 ≤ 9) (hy : g_X6_isIn (xs 2) 1 9 = 1) : W p l e room_1 s m #[Value.ref b] below meth c H locs 47 402 (lw_Z below #[Value.ref b] s) (F0 m 148 ls []) := by
  obtain ⟨hx, hb, hr, hml, hown, hts0, hX, hbl, hlocks, hgv⟩ := id C0
  have hts : ∀ w ∈ wsL_law, w.before #[Value.ref b] s = true := fun w h => hts0 w (wsL_law_in w h)
  have hown : s.vm.findClass RL = some m.cls := hown
  have hA : ∀ q, s.heap.size ≤ q → lA s q := fun _ h => h
  have hbA : ¬ lA s b := Nat.not_le.mpr hbl
  refine lv_aload_n hx hb dL_law_148 rfl (lv_at hl 1 rfl) ?_
  refine l_ld (k := 1) (v := nI k) hx hb hX hbl hbA hw.2.2 (lv_at hl 0 rfl) (lv_at hl 4 rfl) hk1 (by decide) dL_law_149 dL_law_150 dL_law_152 (by decide) dL_law_153 dL_law_154 ?_
  refine l_ld (k := 2) (v := xs 2) hx hb hX hbl hbA hw.2.2 (lv_at hl 0 rfl) (lv_at hl 4 rfl) rfl (by decide) dL_law_155 dL_law_156 dL_law_158 (by decide) dL_law_159 dL_law_160 ?_
  refine lv_aload_n hx hb dL_law_161 rfl (lv_at hl 3 rfl) ?_
  refine lh_n (As := [.ref (a 0), .int (nI k), .int (xs 2), .ref o]) ⟨hx, hb, hml, hown, hts⟩ (zL_area_n l hst D a cs f_new o cJ fl (lW_so hw) k hk (xs 2) h1 h2 (by decide) _) (vx_cwSW 4 hts gL_law_L_area rfl rfl rfl (by decide +kernel) ⟨Nat.le_of_ble_eq_true rfl, Nat.le_of_ble_eq_true rfl⟩) hm hw rfl hl.1 dL_law_162 ⟨Nat.le_of_ble_eq_true rfl, Nat.le_of_ble_eq_true rfl⟩ (fun u H locs hu hw => ?_)
  refine lv_istore (lv' := [(5, .int 0), (0, .ref b), (1, .ref (a 0)), (2, .ref (a' 10)), (3, .ref o), (4, .int 0)]) hx hb dL_law_165 hl (by decide) rfl (fun ls hl => ?_)
  refine lv_aload_n hx hb dL_law_167 rfl (lv_at hl 3 rfl) ?_
  refine l_ld (k := 1) (v := nI k) hx hb hX hbl hbA hw.2.2 (lv_at hl 1 rfl) (lv_at hl 5 rfl) hk1 (by decide) dL_law_168 dL_law_169 dL_law_171 (by decide) dL_law_172 dL_law_173 ?_
  refine l_ld (k := 2) (v := xs 2) hx hb hX hbl hbA hw.2.2 (lv_at hl 1 rfl) (lv_at hl 5 rfl) rfl (by decide) dL_law_174 dL_law_175 dL_law_177 (by decide) dL_law_178 dL_law_179 ?_
  refine mc_i (mr_V (i := 10) (As := [.int (nI k), .int (xs 2)]) (rest := []) ⟨hx, hb, hml, hown, hts⟩ (zX6_area_3 l D a' cs' 12 (by omega) m_row0 k hk (xs 2) hy (by decide) _) (cwV 2 hts gL_law_X6_area rfl rfl rfl (by decide +kernel) ⟨Nat.le_of_ble_eq_true rfl, Nat.le_of_ble_eq_true rfl⟩) hm.2.1 hm.2.2.2.2.1 hw (by omega) mE_o kcX6 rfl hl.1 (Nat.le_of_ble_eq_true rfl) dL_law_180 ⟨Nat.le_of_ble_eq_true rfl, Nat.le_of_ble_eq_true rfl⟩) hw hA (fun H locs hw => ?_)
  refine lv_topi (fun v6 ev6 => ?_)
  refine lv_istore (lv' := [(6, .int v6), (5, .int 0), (0, .ref b), (1, .ref (a 0)), (2, .ref (a' 10)), (3, .ref o), (4, .int 0)]) hx hb dL_law_183 hl (by decide) rfl (fun ls hl => ?_)
  refine lv_aload_n hx hb dL_law_185 rfl (lv_at hl 4 rfl) ?_
  refine mc_i (mr_V (i := 10) (As := []) (rest := []) ⟨hx, hb, hml, hown, hts⟩ (zX6_thrown l D a' cs' 12 (by omega) _ _) (cwV 0 hts gL_law_X6_thrown rfl rfl rfl (by decide +kernel) ⟨Nat.le_of_ble_eq_true rfl, Nat.le_of_ble_eq_true rfl⟩) hm.2.1 hm.2.2.2.2.1 hw (by omega) mE_o kcX6 rfl hl.1 (Nat.le_of_ble_eq_true rfl) dL_law_186 ⟨Nat.le_of_ble_eq_true rfl, Nat.le_of_ble_eq_true rfl⟩) hw hA (fun H locs hw => ?_)
  refine w_top0 (v := 0) (by rw [va_up_ne _ _ (by omega)]; rfl) ?_
  refine lv_iload hx hb dL_law_189 (lv_at hl 1 rfl) ?_
  refine lv_icmp_eq (tgt := 196) hx hb dL_law_191 (by decide) (fun _ => ?_) (fun c1 => absurd rfl c1)
  refine lv_iload hx hb dL_law_196 (lv_at hl 1 rfl) ?_
  refine lv_if_ne (tgt := 213) hx hb dL_law_198 (by decide) (fun c1 => absurd rfl c1) (fun _ => ?_)
  refine lv_aload_n hx hb dL_law_201 rfl (lv_at hl 5 rfl) ?_
  refine lv_iconst (v := 0) hx hb dL_law_202 (by decide) ?_
  refine va_lald hx hb hm.2.2.1 hw.1 12 0 (by rw [show (12 : Nat) = 12 + 0 from rfl, mX_x]; rfl) rfl (vp_in_nI (n := 0) (by decide) (by decide)) dL_law_203 ?_
  refine lv_iload hx hb dL_law_204 (lv_at hl 0 rfl) ?_
  refine lv_i2l hx hb dL_law_206 rfl ?_
  refine W.lcmp hx hb dL_law_207 ?_
  refine lv_if_eq (tgt := 213) hx hb dL_law_208 (by decide) (fun _ => ?_) (fun c1 => absurd ((lg_cmp_eq _ _).mpr (hu.trans (congrArg Int32.toInt64 (((fn_8 hk).trans ((mFr_thr fr0).2.1 k hk).symm).trans ev6.symm)))) c1)
  refine lv_goto (tgt := 1793) hx hb dL_law_213 (by decide) ?_
  refine W.widen (k := 600002) (n := 7302232) (Nat.le_of_ble_eq_true rfl) (Nat.le_of_ble_eq_true rfl) ?_
  exact l_fin C0 hw.2.2 (lv_sub hl [2, 6] rfl)
set_option maxHeartbeats 4000000 in
set_option maxRecDepth 100000 in
theorem ll_gate_1 {p : Program} {e : Env} {s : State} {m : MethodId} {below : List Frame} {meth : Method} {c : Code} {l : Launch} (hst : l.stackTraces = false) {b : Nat} {xs : Nat → Int32} (C0 : lw_At p s m meth c b 5 xs) {D : va_G} {a : Nat → Nat} {cs : Nat → ClassId} {a' : Nat → Nat} {cs' : Nat → ClassId} {o : Nat} {cJ : ClassId} {fl : Nat → Int64} (hm : lM D cs cs' cJ s) {H : Heap} {locs : List Loc} (hw : lW D a cs a' cs' o cJ fl s H locs) {ls : Array Slot} (hl : lv_has ls 9 [(0, .ref b), (1, .ref (a 0)), (2, .ref (a' 10)), (3, .ref o), (4, .int 0)]) (hp : xs 1 < 0 ∨ ¬ xs 1 < 0 ∧ ¬ xs 1 < 8) (hp2 : g_X6_isNoPond (xs 1) = 1) : W p l e room_1 s m #[Value.ref b] below meth c H locs 47 402 (lw_Z below #[Value.ref b] s) (F0 m 216 ls []) := by
  obtain ⟨hx, hb, hr, hml, hown, hts0, hX, hbl, hlocks, hgv⟩ := id C0
  have hts : ∀ w ∈ wsL_law, w.before #[Value.ref b] s = true := fun w h => hts0 w (wsL_law_in w h)
  have hown : s.vm.findClass RL = some m.cls := hown
  have hA : ∀ q, s.heap.size ≤ q → lA s q := fun _ h => h
  have hbA : ¬ lA s b := Nat.not_le.mpr hbl
  refine lv_aload_n hx hb dL_law_216 rfl (lv_at hl 1 rfl) ?_
  refine l_ld (k := 1) (v := xs 1) hx hb hX hbl hbA hw.2.2 (lv_at hl 0 rfl) (lv_at hl 4 rfl) rfl (by decide) dL_law_217 dL_law_218 dL_law_220 (by decide) dL_law_221 dL_law_222 ?_
  refine l_ld (k := 2) (v := xs 2) hx hb hX hbl hbA hw.2.2 (lv_at hl 0 rfl) (lv_at hl 4 rfl) rfl (by decide) dL_law_223 dL_law_224 dL_law_226 (by decide) dL_law_227 dL_law_228 ?_
  refine l_bool hx hb dL_law_229 dL_law_232 dL_law_233 dL_law_236 ?_
  refine lv_aload_n hx hb dL_law_237 rfl (lv_at hl 3 rfl) ?_
  refine lh_x (As := [.ref (a 0), .int (xs 1), .int (g_X6_one (xs 2)), .ref o]) ⟨hx, hb, hml, hown, hts⟩ (zL_gate_x1 l hst D a cs f_new o cJ fl (lW_so hw) (xs 1) hp (g_X6_one (xs 2)) _) (vx_cwSW 4 hts gL_law_L_gate rfl rfl rfl (by decide +kernel) ⟨Nat.le_of_ble_eq_true rfl, Nat.le_of_ble_eq_true rfl⟩) hm hw rfl hl.1 dL_law_238 ⟨Nat.le_of_ble_eq_true rfl, Nat.le_of_ble_eq_true rfl⟩ (fun H locs hw => ?_)
  refine lv_istore (lv' := [(5, .int 1), (0, .ref b), (1, .ref (a 0)), (2, .ref (a' 10)), (3, .ref o), (4, .int 0)]) hx hb dL_law_241 hl (by decide) rfl (fun ls hl => ?_)
  refine lv_aload_n hx hb dL_law_243 rfl (lv_at hl 3 rfl) ?_
  refine l_ld (k := 1) (v := xs 1) hx hb hX hbl hbA hw.2.2 (lv_at hl 1 rfl) (lv_at hl 5 rfl) rfl (by decide) dL_law_244 dL_law_245 dL_law_247 (by decide) dL_law_248 dL_law_249 ?_
  refine l_ld (k := 2) (v := xs 2) hx hb hX hbl hbA hw.2.2 (lv_at hl 1 rfl) (lv_at hl 5 rfl) rfl (by decide) dL_law_250 dL_law_251 dL_law_253 (by decide) dL_law_254 dL_law_255 ?_
  refine l_bool hx hb dL_law_256 dL_law_259 dL_law_260 dL_law_263 ?_
  refine mc_i (mr_V (i := 10) (As := [.int (xs 1), .int (g_X6_one (xs 2))]) (rest := []) ⟨hx, hb, hml, hown, hts⟩ (zX6_gate_1 l D a' cs' 12 (by omega) m_row0 (xs 1) (g_X6_one (xs 2)) hp2 _) (cwV 2 hts gL_law_X6_gate rfl rfl rfl (by decide +kernel) ⟨Nat.le_of_ble_eq_true rfl, Nat.le_of_ble_eq_true rfl⟩) hm.2.1 hm.2.2.2.2.1 hw (by omega) mE_o kcX6 rfl hl.1 (Nat.le_of_ble_eq_true rfl) dL_law_264 ⟨Nat.le_of_ble_eq_true rfl, Nat.le_of_ble_eq_true rfl⟩) hw hA (fun H locs hw => ?_)
  refine lv_topi (fun v6 ev6 => ?_)
  refine lv_istore (lv' := [(6, .int v6), (5, .int 1), (0, .ref b), (1, .ref (a 0)), (2, .ref (a' 10)), (3, .ref o), (4, .int 0)]) hx hb dL_law_267 hl (by decide) rfl (fun ls hl => ?_)
  refine lv_aload_n hx hb dL_law_269 rfl (lv_at hl 4 rfl) ?_
  refine mc_i (mr_V (i := 10) (As := []) (rest := []) ⟨hx, hb, hml, hown, hts⟩ (zX6_thrown l D a' cs' 12 (by omega) _ _) (cwV 0 hts gL_law_X6_thrown rfl rfl rfl (by decide +kernel) ⟨Nat.le_of_ble_eq_true rfl, Nat.le_of_ble_eq_true rfl⟩) hm.2.1 hm.2.2.2.2.1 hw (by omega) mE_o kcX6 rfl hl.1 (Nat.le_of_ble_eq_true rfl) dL_law_270 ⟨Nat.le_of_ble_eq_true rfl, Nat.le_of_ble_eq_true rfl⟩) hw hA (fun H locs hw => ?_)
  refine w_top0 (v := 1) (rfl) ?_
  refine lv_iload hx hb dL_law_273 (lv_at hl 1 rfl) ?_
  refine lv_icmp_eq (tgt := 280) hx hb dL_law_275 (by decide) (fun _ => ?_) (fun c1 => absurd rfl c1)
  refine lv_iload hx hb dL_law_280 (lv_at hl 1 rfl) ?_
  refine lv_if_ne (tgt := 304) hx hb dL_law_282 (by decide) (fun _ => ?_) (fun c1 => absurd c1 (by decide))
  refine lv_goto (tgt := 1793) hx hb dL_law_304 (by decide) ?_
  refine W.widen (k := 600002) (n := 7302232) (Nat.le_of_ble_eq_true rfl) (Nat.le_of_ble_eq_true rfl) ?_
  exact l_fin C0 hw.2.2 (lv_sub hl [2, 6] rfl)
set_option maxHeartbeats 4000000 in
set_option maxRecDepth 100000 in
theorem ll_gate_2 {p : Program} {e : Env} {s : State} {m : MethodId} {below : List Frame} {meth : Method} {c : Code} {l : Launch} (hst : l.stackTraces = false) {b : Nat} {xs : Nat → Int32} (C0 : lw_At p s m meth c b 5 xs) {D : va_G} {a : Nat → Nat} {cs : Nat → ClassId} {a' : Nat → Nat} {cs' : Nat → ClassId} {o : Nat} {cJ : ClassId} {fl : Nat → Int64} (hm : lM D cs cs' cJ s) {H : Heap} {locs : List Loc} (hw : lW D a cs a' cs' o cJ fl s H locs) {ls : Array Slot} (hl : lv_has ls 9 [(0, .ref b), (1, .ref (a 0)), (2, .ref (a' 10)), (3, .ref o), (4, .int 0)]) (k : Nat) (hk : k < 8) (hk1 : xs 1 = nI k) : W p l e room_1 s m #[Value.ref b] below meth c H locs 47 402 (lw_Z below #[Value.ref b] s) (F0 m 216 ls []) := by
  obtain ⟨hx, hb, hr, hml, hown, hts0, hX, hbl, hlocks, hgv⟩ := id C0
  have hts : ∀ w ∈ wsL_law, w.before #[Value.ref b] s = true := fun w h => hts0 w (wsL_law_in w h)
  have hown : s.vm.findClass RL = some m.cls := hown
  have hA : ∀ q, s.heap.size ≤ q → lA s q := fun _ h => h
  have hbA : ¬ lA s b := Nat.not_le.mpr hbl
  refine lv_aload_n hx hb dL_law_216 rfl (lv_at hl 1 rfl) ?_
  refine l_ld (k := 1) (v := nI k) hx hb hX hbl hbA hw.2.2 (lv_at hl 0 rfl) (lv_at hl 4 rfl) hk1 (by decide) dL_law_217 dL_law_218 dL_law_220 (by decide) dL_law_221 dL_law_222 ?_
  refine l_ld (k := 2) (v := xs 2) hx hb hX hbl hbA hw.2.2 (lv_at hl 0 rfl) (lv_at hl 4 rfl) rfl (by decide) dL_law_223 dL_law_224 dL_law_226 (by decide) dL_law_227 dL_law_228 ?_
  refine l_bool hx hb dL_law_229 dL_law_232 dL_law_233 dL_law_236 ?_
  refine lv_aload_n hx hb dL_law_237 rfl (lv_at hl 3 rfl) ?_
  refine lh_n (As := [.ref (a 0), .int (nI k), .int (g_X6_one (xs 2)), .ref o]) ⟨hx, hb, hml, hown, hts⟩ (zL_gate_n l hst D a cs f_new o cJ fl (lW_so hw) k hk (g_X6_one (xs 2)) one01 (Or.inl (fn_k (by decide))) (fn_k (by decide)) _) (vx_cwSW 4 hts gL_law_L_gate rfl rfl rfl (by decide +kernel) ⟨Nat.le_of_ble_eq_true rfl, Nat.le_of_ble_eq_true rfl⟩) hm hw rfl hl.1 dL_law_238 ⟨Nat.le_of_ble_eq_true rfl, Nat.le_of_ble_eq_true rfl⟩ (fun u H locs hu hw => ?_)
  refine lv_istore (lv' := [(5, .int 0), (0, .ref b), (1, .ref (a 0)), (2, .ref (a' 10)), (3, .ref o), (4, .int 0)]) hx hb dL_law_241 hl (by decide) rfl (fun ls hl => ?_)
  refine lv_aload_n hx hb dL_law_243 rfl (lv_at hl 3 rfl) ?_
  refine l_ld (k := 1) (v := nI k) hx hb hX hbl hbA hw.2.2 (lv_at hl 1 rfl) (lv_at hl 5 rfl) hk1 (by decide) dL_law_244 dL_law_245 dL_law_247 (by decide) dL_law_248 dL_law_249 ?_
  refine l_ld (k := 2) (v := xs 2) hx hb hX hbl hbA hw.2.2 (lv_at hl 1 rfl) (lv_at hl 5 rfl) rfl (by decide) dL_law_250 dL_law_251 dL_law_253 (by decide) dL_law_254 dL_law_255 ?_
  refine l_bool hx hb dL_law_256 dL_law_259 dL_law_260 dL_law_263 ?_
  refine mc_i (mr_V (i := 10) (As := [.int (nI k), .int (g_X6_one (xs 2))]) (rest := []) ⟨hx, hb, hml, hown, hts⟩ (zX6_gate_2 l D a' cs' 12 (by omega) m_row0 k hk (g_X6_one (xs 2)) one01 (Or.inl (fr0.1 k hk 8 (by decide) (by decide))) _) (cwV 2 hts gL_law_X6_gate rfl rfl rfl (by decide +kernel) ⟨Nat.le_of_ble_eq_true rfl, Nat.le_of_ble_eq_true rfl⟩) hm.2.1 hm.2.2.2.2.1 hw (by omega) mE_o kcX6 rfl hl.1 (Nat.le_of_ble_eq_true rfl) dL_law_264 ⟨Nat.le_of_ble_eq_true rfl, Nat.le_of_ble_eq_true rfl⟩) hw hA (fun H locs hw => ?_)
  refine lv_topi (fun v6 ev6 => ?_)
  refine lv_istore (lv' := [(6, .int v6), (5, .int 0), (0, .ref b), (1, .ref (a 0)), (2, .ref (a' 10)), (3, .ref o), (4, .int 0)]) hx hb dL_law_267 hl (by decide) rfl (fun ls hl => ?_)
  refine lv_aload_n hx hb dL_law_269 rfl (lv_at hl 4 rfl) ?_
  refine mc_i (mr_V (i := 10) (As := []) (rest := []) ⟨hx, hb, hml, hown, hts⟩ (zX6_thrown l D a' cs' 12 (by omega) _ _) (cwV 0 hts gL_law_X6_thrown rfl rfl rfl (by decide +kernel) ⟨Nat.le_of_ble_eq_true rfl, Nat.le_of_ble_eq_true rfl⟩) hm.2.1 hm.2.2.2.2.1 hw (by omega) mE_o kcX6 rfl hl.1 (Nat.le_of_ble_eq_true rfl) dL_law_270 ⟨Nat.le_of_ble_eq_true rfl, Nat.le_of_ble_eq_true rfl⟩) hw hA (fun H locs hw => ?_)
  refine w_top0 (v := 0) (by rw [va_up_ne _ _ (by omega)]; rfl) ?_
  refine lv_iload hx hb dL_law_273 (lv_at hl 1 rfl) ?_
  refine lv_icmp_eq (tgt := 280) hx hb dL_law_275 (by decide) (fun _ => ?_) (fun c1 => absurd rfl c1)
  refine lv_iload hx hb dL_law_280 (lv_at hl 1 rfl) ?_
  refine lv_if_ne (tgt := 304) hx hb dL_law_282 (by decide) (fun c1 => absurd rfl c1) (fun _ => ?_)
  refine lv_aload_n hx hb dL_law_285 rfl (lv_at hl 5 rfl) ?_
  refine lv_iconst (v := 0) hx hb dL_law_286 (by decide) ?_
  refine va_lald hx hb hm.2.2.1 hw.1 12 0 (by rw [show (12 : Nat) = 12 + 0 from rfl, mX_x]; rfl) rfl (vp_in_nI (n := 0) (by decide) (by decide)) dL_law_287 ?_
  refine lv_iload hx hb dL_law_288 (lv_at hl 0 rfl) ?_
  refine lv_if_eq (tgt := 297) hx hb dL_law_290 (by decide) (fun _ => ?_) (fun c1 => absurd (ev6.trans ((mFr_thr fr0).1 k hk 8 (by decide) (by decide))) c1)
  refine lv_lconst (v := 0) hx hb dL_law_297 (by decide) ?_
  refine W.lcmp hx hb dL_law_298 ?_
  refine lv_if_eq (tgt := 304) hx hb dL_law_299 (by decide) (fun _ => ?_) (fun c1 => absurd ((lg_cmp_eq _ _).mpr (hu)) c1)
  refine lv_goto (tgt := 1793) hx hb dL_law_304 (by decide) ?_
  refine W.widen (k := 600002) (n := 7302232) (Nat.le_of_ble_eq_true rfl) (Nat.le_of_ble_eq_true rfl) ?_
  exact l_fin C0 hw.2.2 (lv_sub hl [2, 6] rfl)
set_option maxHeartbeats 4000000 in
set_option maxRecDepth 100000 in
theorem ll_cover_1 {p : Program} {e : Env} {s : State} {m : MethodId} {below : List Frame} {meth : Method} {c : Code} {l : Launch} (hst : l.stackTraces = false) {b : Nat} {xs : Nat → Int32} (C0 : lw_At p s m meth c b 5 xs) {D : va_G} {a : Nat → Nat} {cs : Nat → ClassId} {a' : Nat → Nat} {cs' : Nat → ClassId} {o : Nat} {cJ : ClassId} {fl : Nat → Int64} (hm : lM D cs cs' cJ s) {H : Heap} {locs : List Loc} (hw : lW D a cs a' cs' o cJ fl s H locs) {ls : Array Slot} (hl : lv_has ls 9 [(0, .ref b), (1, .ref (a 0)), (2, .ref (a' 10)), (3, .ref o), (4, .int 0)]) (hp : xs 1 < 5 ∨ ¬ xs 1 < 5 ∧ ¬ xs 1 < 8) (hp2 : g_X6_isNoPan (xs 1) = 1) : W p l e room_1 s m #[Value.ref b] below meth c H locs 47 402 (lw_Z below #[Value.ref b] s) (F0 m 307 ls []) := by
  obtain ⟨hx, hb, hr, hml, hown, hts0, hX, hbl, hlocks, hgv⟩ := id C0
  have hts : ∀ w ∈ wsL_law, w.before #[Value.ref b] s = true := fun w h => hts0 w (wsL_law_in w h)
  have hown : s.vm.findClass RL = some m.cls := hown
  have hA : ∀ q, s.heap.size ≤ q → lA s q := fun _ h => h
  have hbA : ¬ lA s b := Nat.not_le.mpr hbl
  refine lv_aload_n hx hb dL_law_307 rfl (lv_at hl 1 rfl) ?_
  refine l_ld (k := 1) (v := xs 1) hx hb hX hbl hbA hw.2.2 (lv_at hl 0 rfl) (lv_at hl 4 rfl) rfl (by decide) dL_law_308 dL_law_309 dL_law_311 (by decide) dL_law_312 dL_law_313 ?_
  refine l_ld (k := 2) (v := xs 2) hx hb hX hbl hbA hw.2.2 (lv_at hl 0 rfl) (lv_at hl 4 rfl) rfl (by decide) dL_law_314 dL_law_315 dL_law_317 (by decide) dL_law_318 dL_law_319 ?_
  refine l_bool hx hb dL_law_320 dL_law_323 dL_law_324 dL_law_327 ?_
  refine lv_aload_n hx hb dL_law_328 rfl (lv_at hl 3 rfl) ?_
  refine lh_x (As := [.ref (a 0), .int (xs 1), .int (g_X6_one (xs 2)), .ref o]) ⟨hx, hb, hml, hown, hts⟩ (zL_cover_x1 l hst D a cs f_new o cJ fl (lW_so hw) (xs 1) hp (g_X6_one (xs 2)) _) (vx_cwSW 4 hts gL_law_L_cover rfl rfl rfl (by decide +kernel) ⟨Nat.le_of_ble_eq_true rfl, Nat.le_of_ble_eq_true rfl⟩) hm hw rfl hl.1 dL_law_329 ⟨Nat.le_of_ble_eq_true rfl, Nat.le_of_ble_eq_true rfl⟩ (fun H locs hw => ?_)
  refine lv_istore (lv' := [(5, .int 1), (0, .ref b), (1, .ref (a 0)), (2, .ref (a' 10)), (3, .ref o), (4, .int 0)]) hx hb dL_law_332 hl (by decide) rfl (fun ls hl => ?_)
  refine lv_aload_n hx hb dL_law_334 rfl (lv_at hl 3 rfl) ?_
  refine l_ld (k := 1) (v := xs 1) hx hb hX hbl hbA hw.2.2 (lv_at hl 1 rfl) (lv_at hl 5 rfl) rfl (by decide) dL_law_335 dL_law_336 dL_law_338 (by decide) dL_law_339 dL_law_340 ?_
  refine l_ld (k := 2) (v := xs 2) hx hb hX hbl hbA hw.2.2 (lv_at hl 1 rfl) (lv_at hl 5 rfl) rfl (by decide) dL_law_341 dL_law_342 dL_law_344 (by decide) dL_law_345 dL_law_346 ?_
  refine l_bool hx hb dL_law_347 dL_law_350 dL_law_351 dL_law_354 ?_
  refine mc_i (mr_V (i := 10) (As := [.int (xs 1), .int (g_X6_one (xs 2))]) (rest := []) ⟨hx, hb, hml, hown, hts⟩ (zX6_cover_1 l D a' cs' 12 (by omega) m_row0 (xs 1) (g_X6_one (xs 2)) hp2 _) (cwV 2 hts gL_law_X6_cover rfl rfl rfl (by decide +kernel) ⟨Nat.le_of_ble_eq_true rfl, Nat.le_of_ble_eq_true rfl⟩) hm.2.1 hm.2.2.2.2.1 hw (by omega) mE_o kcX6 rfl hl.1 (Nat.le_of_ble_eq_true rfl) dL_law_355 ⟨Nat.le_of_ble_eq_true rfl, Nat.le_of_ble_eq_true rfl⟩) hw hA (fun H locs hw => ?_)
  refine lv_topi (fun v6 ev6 => ?_)
  refine lv_istore (lv' := [(6, .int v6), (5, .int 1), (0, .ref b), (1, .ref (a 0)), (2, .ref (a' 10)), (3, .ref o), (4, .int 0)]) hx hb dL_law_358 hl (by decide) rfl (fun ls hl => ?_)
  refine lv_aload_n hx hb dL_law_360 rfl (lv_at hl 4 rfl) ?_
  refine mc_i (mr_V (i := 10) (As := []) (rest := []) ⟨hx, hb, hml, hown, hts⟩ (zX6_thrown l D a' cs' 12 (by omega) _ _) (cwV 0 hts gL_law_X6_thrown rfl rfl rfl (by decide +kernel) ⟨Nat.le_of_ble_eq_true rfl, Nat.le_of_ble_eq_true rfl⟩) hm.2.1 hm.2.2.2.2.1 hw (by omega) mE_o kcX6 rfl hl.1 (Nat.le_of_ble_eq_true rfl) dL_law_361 ⟨Nat.le_of_ble_eq_true rfl, Nat.le_of_ble_eq_true rfl⟩) hw hA (fun H locs hw => ?_)
  refine w_top0 (v := 1) (rfl) ?_
  refine lv_iload hx hb dL_law_364 (lv_at hl 1 rfl) ?_
  refine lv_icmp_eq (tgt := 371) hx hb dL_law_366 (by decide) (fun _ => ?_) (fun c1 => absurd rfl c1)
  refine lv_iload hx hb dL_law_371 (lv_at hl 1 rfl) ?_
  refine lv_if_ne (tgt := 395) hx hb dL_law_373 (by decide) (fun _ => ?_) (fun c1 => absurd c1 (by decide))
  refine lv_goto (tgt := 1793) hx hb dL_law_395 (by decide) ?_
  refine W.widen (k := 600002) (n := 7302232) (Nat.le_of_ble_eq_true rfl) (Nat.le_of_ble_eq_true rfl) ?_
  exact l_fin C0 hw.2.2 (lv_sub hl [2, 6] rfl)
set_option maxHeartbeats 4000000 in
set_option maxRecDepth 100000 in
theorem ll_cover_2 {p : Program} {e : Env} {s : State} {m : MethodId} {below : List Frame} {meth : Method} {c : Code} {l : Launch} (hst : l.stackTraces = false) {b : Nat} {xs : Nat → Int32} (C0 : lw_At p s m meth c b 5 xs) {D : va_G} {a : Nat → Nat} {cs : Nat → ClassId} {a' : Nat → Nat} {cs' : Nat → ClassId} {o : Nat} {cJ : ClassId} {fl : Nat → Int64} (hm : lM D cs cs' cJ s) {H : Heap} {locs : List Loc} (hw : lW D a cs a' cs' o cJ fl s H locs) {ls : Array Slot} (hl : lv_has ls 9 [(0, .ref b), (1, .ref (a 0)), (2, .ref (a' 10)), (3, .ref o), (4, .int 0)]) (q : Nat) (hq : q < 3) (hk1 : xs 1 = nI (5 + q)) : W p l e room_1 s m #[Value.ref b] below meth c H locs 47 402 (lw_Z below #[Value.ref b] s) (F0 m 307 ls []) := by
  obtain ⟨hx, hb, hr, hml, hown, hts0, hX, hbl, hlocks, hgv⟩ := id C0
  have hts : ∀ w ∈ wsL_law, w.before #[Value.ref b] s = true := fun w h => hts0 w (wsL_law_in w h)
  have hown : s.vm.findClass RL = some m.cls := hown
  have hA : ∀ q, s.heap.size ≤ q → lA s q := fun _ h => h
  have hbA : ¬ lA s b := Nat.not_le.mpr hbl
  refine lv_aload_n hx hb dL_law_307 rfl (lv_at hl 1 rfl) ?_
  refine l_ld (k := 1) (v := nI (5 + q)) hx hb hX hbl hbA hw.2.2 (lv_at hl 0 rfl) (lv_at hl 4 rfl) hk1 (by decide) dL_law_308 dL_law_309 dL_law_311 (by decide) dL_law_312 dL_law_313 ?_
  refine l_ld (k := 2) (v := xs 2) hx hb hX hbl hbA hw.2.2 (lv_at hl 0 rfl) (lv_at hl 4 rfl) rfl (by decide) dL_law_314 dL_law_315 dL_law_317 (by decide) dL_law_318 dL_law_319 ?_
  refine l_bool hx hb dL_law_320 dL_law_323 dL_law_324 dL_law_327 ?_
  refine lv_aload_n hx hb dL_law_328 rfl (lv_at hl 3 rfl) ?_
  refine lh_n (As := [.ref (a 0), .int (nI (5 + q)), .int (g_X6_one (xs 2)), .ref o]) ⟨hx, hb, hml, hown, hts⟩ (zL_cover_n l hst D a cs f_new o cJ fl (lW_so hw) q hq (g_X6_one (xs 2)) one01 (Or.inl (fn_k (by decide))) (fn_k (by decide)) _) (vx_cwSW 4 hts gL_law_L_cover rfl rfl rfl (by decide +kernel) ⟨Nat.le_of_ble_eq_true rfl, Nat.le_of_ble_eq_true rfl⟩) hm hw rfl hl.1 dL_law_329 ⟨Nat.le_of_ble_eq_true rfl, Nat.le_of_ble_eq_true rfl⟩ (fun u H locs hu hw => ?_)
  refine lv_istore (lv' := [(5, .int 0), (0, .ref b), (1, .ref (a 0)), (2, .ref (a' 10)), (3, .ref o), (4, .int 0)]) hx hb dL_law_332 hl (by decide) rfl (fun ls hl => ?_)
  refine lv_aload_n hx hb dL_law_334 rfl (lv_at hl 3 rfl) ?_
  refine l_ld (k := 1) (v := nI (5 + q)) hx hb hX hbl hbA hw.2.2 (lv_at hl 1 rfl) (lv_at hl 5 rfl) hk1 (by decide) dL_law_335 dL_law_336 dL_law_338 (by decide) dL_law_339 dL_law_340 ?_
  refine l_ld (k := 2) (v := xs 2) hx hb hX hbl hbA hw.2.2 (lv_at hl 1 rfl) (lv_at hl 5 rfl) rfl (by decide) dL_law_341 dL_law_342 dL_law_344 (by decide) dL_law_345 dL_law_346 ?_
  refine l_bool hx hb dL_law_347 dL_law_350 dL_law_351 dL_law_354 ?_
  refine mc_i (mr_V (i := 10) (As := [.int (nI (5 + q)), .int (g_X6_one (xs 2))]) (rest := []) ⟨hx, hb, hml, hown, hts⟩ (zX6_cover_2 l D a' cs' 12 (by omega) m_row0 q hq (g_X6_one (xs 2)) one01 (Or.inl (fr0.1 (5 + q) (by omega) 9 (by decide) (by decide))) _) (cwV 2 hts gL_law_X6_cover rfl rfl rfl (by decide +kernel) ⟨Nat.le_of_ble_eq_true rfl, Nat.le_of_ble_eq_true rfl⟩) hm.2.1 hm.2.2.2.2.1 hw (by omega) mE_o kcX6 rfl hl.1 (Nat.le_of_ble_eq_true rfl) dL_law_355 ⟨Nat.le_of_ble_eq_true rfl, Nat.le_of_ble_eq_true rfl⟩) hw hA (fun H locs hw => ?_)
  refine lv_topi (fun v6 ev6 => ?_)
  refine lv_istore (lv' := [(6, .int v6), (5, .int 0), (0, .ref b), (1, .ref (a 0)), (2, .ref (a' 10)), (3, .ref o), (4, .int 0)]) hx hb dL_law_358 hl (by decide) rfl (fun ls hl => ?_)
  refine lv_aload_n hx hb dL_law_360 rfl (lv_at hl 4 rfl) ?_
  refine mc_i (mr_V (i := 10) (As := []) (rest := []) ⟨hx, hb, hml, hown, hts⟩ (zX6_thrown l D a' cs' 12 (by omega) _ _) (cwV 0 hts gL_law_X6_thrown rfl rfl rfl (by decide +kernel) ⟨Nat.le_of_ble_eq_true rfl, Nat.le_of_ble_eq_true rfl⟩) hm.2.1 hm.2.2.2.2.1 hw (by omega) mE_o kcX6 rfl hl.1 (Nat.le_of_ble_eq_true rfl) dL_law_361 ⟨Nat.le_of_ble_eq_true rfl, Nat.le_of_ble_eq_true rfl⟩) hw hA (fun H locs hw => ?_)
  refine w_top0 (v := 0) (by rw [va_up_ne _ _ (by omega)]; rfl) ?_
  refine lv_iload hx hb dL_law_364 (lv_at hl 1 rfl) ?_
  refine lv_icmp_eq (tgt := 371) hx hb dL_law_366 (by decide) (fun _ => ?_) (fun c1 => absurd rfl c1)
  refine lv_iload hx hb dL_law_371 (lv_at hl 1 rfl) ?_
  refine lv_if_ne (tgt := 395) hx hb dL_law_373 (by decide) (fun c1 => absurd rfl c1) (fun _ => ?_)
  refine lv_aload_n hx hb dL_law_376 rfl (lv_at hl 5 rfl) ?_
  refine lv_iconst (v := 0) hx hb dL_law_377 (by decide) ?_
  refine va_lald hx hb hm.2.2.1 hw.1 12 0 (by rw [show (12 : Nat) = 12 + 0 from rfl, mX_x]; rfl) rfl (vp_in_nI (n := 0) (by decide) (by decide)) dL_law_378 ?_
  refine lv_iload hx hb dL_law_379 (lv_at hl 0 rfl) ?_
  refine lv_if_eq (tgt := 388) hx hb dL_law_381 (by decide) (fun _ => ?_) (fun c1 => absurd (ev6.trans ((mFr_thr fr0).1 (5 + q) (by omega) 9 (by decide) (by decide))) c1)
  refine lv_lconst (v := 0) hx hb dL_law_388 (by decide) ?_
  refine W.lcmp hx hb dL_law_389 ?_
  refine lv_if_eq (tgt := 395) hx hb dL_law_390 (by decide) (fun _ => ?_) (fun c1 => absurd ((lg_cmp_eq _ _).mpr (hu)) c1)
  refine lv_goto (tgt := 1793) hx hb dL_law_395 (by decide) ?_
  refine W.widen (k := 600002) (n := 7302232) (Nat.le_of_ble_eq_true rfl) (Nat.le_of_ble_eq_true rfl) ?_
  exact l_fin C0 hw.2.2 (lv_sub hl [2, 6] rfl)
set_option maxHeartbeats 4000000 in
set_option maxRecDepth 100000 in
theorem ll_pass_1 {p : Program} {e : Env} {s : State} {m : MethodId} {below : List Frame} {meth : Method} {c : Code} {l : Launch} (hst : l.stackTraces = false) {b : Nat} {xs : Nat → Int32} (C0 : lw_At p s m meth c b 5 xs) {D : va_G} {a : Nat → Nat} {cs : Nat → ClassId} {a' : Nat → Nat} {cs' : Nat → ClassId} {o : Nat} {cJ : ClassId} {fl : Nat → Int64} (hm : lM D cs cs' cJ s) {H : Heap} {locs : List Loc} (hw : lW D a cs a' cs' o cJ fl s H locs) {ls : Array Slot} (hl : lv_has ls 9 [(0, .ref b), (1, .ref (a 0)), (2, .ref (a' 10)), (3, .ref o), (4, .int 0)]) (h1 : xs 1 < 1) (h0 : g_X6_isIn (xs 1) 1 30 = 0) : W p l e room_1 s m #[Value.ref b] below meth c H locs 47 402 (lw_Z below #[Value.ref b] s) (F0 m 398 ls []) := by
  obtain ⟨hx, hb, hr, hml, hown, hts0, hX, hbl, hlocks, hgv⟩ := id C0
  have hts : ∀ w ∈ wsL_law, w.before #[Value.ref b] s = true := fun w h => hts0 w (wsL_law_in w h)
  have hown : s.vm.findClass RL = some m.cls := hown
  have hA : ∀ q, s.heap.size ≤ q → lA s q := fun _ h => h
  have hbA : ¬ lA s b := Nat.not_le.mpr hbl
  refine lv_aload_n hx hb dL_law_398 rfl (lv_at hl 1 rfl) ?_
  refine l_ld (k := 1) (v := xs 1) hx hb hX hbl hbA hw.2.2 (lv_at hl 0 rfl) (lv_at hl 4 rfl) rfl (by decide) dL_law_399 dL_law_400 dL_law_402 (by decide) dL_law_403 dL_law_404 ?_
  refine l_ld (k := 2) (v := xs 2) hx hb hX hbl hbA hw.2.2 (lv_at hl 0 rfl) (lv_at hl 4 rfl) rfl (by decide) dL_law_405 dL_law_406 dL_law_408 (by decide) dL_law_409 dL_law_410 ?_
  refine l_ld (k := 3) (v := xs 3) hx hb hX hbl hbA hw.2.2 (lv_at hl 0 rfl) (lv_at hl 4 rfl) rfl (by decide) dL_law_411 dL_law_412 dL_law_414 (by decide) dL_law_415 dL_law_416 ?_
  refine l_ld (k := 4) (v := xs 4) hx hb hX hbl hbA hw.2.2 (lv_at hl 0 rfl) (lv_at hl 4 rfl) rfl (by decide) dL_law_417 dL_law_418 dL_law_420 (by decide) dL_law_421 dL_law_422 ?_
  refine lv_aload_n hx hb dL_law_423 rfl (lv_at hl 3 rfl) ?_
  refine lh_x (As := [.ref (a 0), .int (xs 1), .int (xs 2), .int (xs 3), .int (xs 4), .ref o]) ⟨hx, hb, hml, hown, hts⟩ (zL_pass_x1 l hst D a cs f_new o cJ fl (lW_so hw) (xs 1) (xs 2) (xs 3) (xs 4) h1 _) (vx_cwSW 6 hts gL_law_L_pass rfl rfl rfl (by decide +kernel) ⟨Nat.le_of_ble_eq_true rfl, Nat.le_of_ble_eq_true rfl⟩) hm hw rfl hl.1 dL_law_424 ⟨Nat.le_of_ble_eq_true rfl, Nat.le_of_ble_eq_true rfl⟩ (fun H locs hw => ?_)
  refine lv_istore (lv' := [(5, .int 1), (0, .ref b), (1, .ref (a 0)), (2, .ref (a' 10)), (3, .ref o), (4, .int 0)]) hx hb dL_law_427 hl (by decide) rfl (fun ls hl => ?_)
  refine lv_aload_n hx hb dL_law_429 rfl (lv_at hl 3 rfl) ?_
  refine l_ld (k := 1) (v := xs 1) hx hb hX hbl hbA hw.2.2 (lv_at hl 1 rfl) (lv_at hl 5 rfl) rfl (by decide) dL_law_430 dL_law_431 dL_law_433 (by decide) dL_law_434 dL_law_435 ?_
  refine l_ld (k := 2) (v := xs 2) hx hb hX hbl hbA hw.2.2 (lv_at hl 1 rfl) (lv_at hl 5 rfl) rfl (by decide) dL_law_436 dL_law_437 dL_law_439 (by decide) dL_law_440 dL_law_441 ?_
  refine l_ld (k := 3) (v := xs 3) hx hb hX hbl hbA hw.2.2 (lv_at hl 1 rfl) (lv_at hl 5 rfl) rfl (by decide) dL_law_442 dL_law_443 dL_law_445 (by decide) dL_law_446 dL_law_447 ?_
  refine l_ld (k := 4) (v := xs 4) hx hb hX hbl hbA hw.2.2 (lv_at hl 1 rfl) (lv_at hl 5 rfl) rfl (by decide) dL_law_448 dL_law_449 dL_law_451 (by decide) dL_law_452 dL_law_453 ?_
  refine mc_i (mr_V (i := 10) (As := [.int (xs 1), .int (xs 2), .int (xs 3), .int (xs 4)]) (rest := []) ⟨hx, hb, hml, hown, hts⟩ (zX6_pass_1 l D a' cs' 12 (by omega) m_row0 (xs 1) (xs 2) (xs 3) (xs 4) h0 _) (cwV 4 hts gL_law_X6_pass rfl rfl rfl (by decide +kernel) ⟨Nat.le_of_ble_eq_true rfl, Nat.le_of_ble_eq_true rfl⟩) hm.2.1 hm.2.2.2.2.1 hw (by omega) mE_o kcX6 rfl hl.1 (Nat.le_of_ble_eq_true rfl) dL_law_454 ⟨Nat.le_of_ble_eq_true rfl, Nat.le_of_ble_eq_true rfl⟩) hw hA (fun H locs hw => ?_)
  refine lv_topi (fun v6 ev6 => ?_)
  refine lv_istore (lv' := [(6, .int v6), (5, .int 1), (0, .ref b), (1, .ref (a 0)), (2, .ref (a' 10)), (3, .ref o), (4, .int 0)]) hx hb dL_law_457 hl (by decide) rfl (fun ls hl => ?_)
  refine lv_aload_n hx hb dL_law_459 rfl (lv_at hl 4 rfl) ?_
  refine mc_i (mr_V (i := 10) (As := []) (rest := []) ⟨hx, hb, hml, hown, hts⟩ (zX6_thrown l D a' cs' 12 (by omega) _ _) (cwV 0 hts gL_law_X6_thrown rfl rfl rfl (by decide +kernel) ⟨Nat.le_of_ble_eq_true rfl, Nat.le_of_ble_eq_true rfl⟩) hm.2.1 hm.2.2.2.2.1 hw (by omega) mE_o kcX6 rfl hl.1 (Nat.le_of_ble_eq_true rfl) dL_law_460 ⟨Nat.le_of_ble_eq_true rfl, Nat.le_of_ble_eq_true rfl⟩) hw hA (fun H locs hw => ?_)
  refine w_top0 (v := 1) (rfl) ?_
  refine lv_iload hx hb dL_law_463 (lv_at hl 1 rfl) ?_
  refine lv_icmp_eq (tgt := 470) hx hb dL_law_465 (by decide) (fun _ => ?_) (fun c1 => absurd rfl c1)
  refine lv_iload hx hb dL_law_470 (lv_at hl 1 rfl) ?_
  refine lv_if_ne (tgt := 487) hx hb dL_law_472 (by decide) (fun _ => ?_) (fun c1 => absurd c1 (by decide))
  refine lv_goto (tgt := 1793) hx hb dL_law_487 (by decide) ?_
  refine W.widen (k := 600002) (n := 7302232) (Nat.le_of_ble_eq_true rfl) (Nat.le_of_ble_eq_true rfl) ?_
  exact l_fin C0 hw.2.2 (lv_sub hl [2, 6] rfl)
set_option maxHeartbeats 4000000 in
set_option maxRecDepth 100000 in
theorem ll_pass_2 {p : Program} {e : Env} {s : State} {m : MethodId} {below : List Frame} {meth : Method} {c : Code} {l : Launch} (hst : l.stackTraces = false) {b : Nat} {xs : Nat → Int32} (C0 : lw_At p s m meth c b 5 xs) {D : va_G} {a : Nat → Nat} {cs : Nat → ClassId} {a' : Nat → Nat} {cs' : Nat → ClassId} {o : Nat} {cJ : ClassId} {fl : Nat → Int64} (hm : lM D cs cs' cJ s) {H : Heap} {locs : List Loc} (hw : lW D a cs a' cs' o cJ fl s H locs) {ls : Array Slot} (hl : lv_has ls 9 [(0, .ref b), (1, .ref (a 0)), (2, .ref (a' 10)), (3, .ref o), (4, .int 0)]) (h1 : ¬ xs 1 < 1) (h2 : ¬ xs 1 ≤ 30) (h0 : g_X6_isIn (xs 1) 1 30 = 0) : W p l e room_1 s m #[Value.ref b] below meth c H locs 47 402 (lw_Z below #[Value.ref b] s) (F0 m 398 ls []) := by
  obtain ⟨hx, hb, hr, hml, hown, hts0, hX, hbl, hlocks, hgv⟩ := id C0
  have hts : ∀ w ∈ wsL_law, w.before #[Value.ref b] s = true := fun w h => hts0 w (wsL_law_in w h)
  have hown : s.vm.findClass RL = some m.cls := hown
  have hA : ∀ q, s.heap.size ≤ q → lA s q := fun _ h => h
  have hbA : ¬ lA s b := Nat.not_le.mpr hbl
  refine lv_aload_n hx hb dL_law_398 rfl (lv_at hl 1 rfl) ?_
  refine l_ld (k := 1) (v := xs 1) hx hb hX hbl hbA hw.2.2 (lv_at hl 0 rfl) (lv_at hl 4 rfl) rfl (by decide) dL_law_399 dL_law_400 dL_law_402 (by decide) dL_law_403 dL_law_404 ?_
  refine l_ld (k := 2) (v := xs 2) hx hb hX hbl hbA hw.2.2 (lv_at hl 0 rfl) (lv_at hl 4 rfl) rfl (by decide) dL_law_405 dL_law_406 dL_law_408 (by decide) dL_law_409 dL_law_410 ?_
  refine l_ld (k := 3) (v := xs 3) hx hb hX hbl hbA hw.2.2 (lv_at hl 0 rfl) (lv_at hl 4 rfl) rfl (by decide) dL_law_411 dL_law_412 dL_law_414 (by decide) dL_law_415 dL_law_416 ?_
  refine l_ld (k := 4) (v := xs 4) hx hb hX hbl hbA hw.2.2 (lv_at hl 0 rfl) (lv_at hl 4 rfl) rfl (by decide) dL_law_417 dL_law_418 dL_law_420 (by decide) dL_law_421 dL_law_422 ?_
  refine lv_aload_n hx hb dL_law_423 rfl (lv_at hl 3 rfl) ?_
  refine lh_x (As := [.ref (a 0), .int (xs 1), .int (xs 2), .int (xs 3), .int (xs 4), .ref o]) ⟨hx, hb, hml, hown, hts⟩ (zL_pass_x2 l hst D a cs f_new o cJ fl (lW_so hw) (xs 1) (xs 2) (xs 3) (xs 4) h1 h2 _) (vx_cwSW 6 hts gL_law_L_pass rfl rfl rfl (by decide +kernel) ⟨Nat.le_of_ble_eq_true rfl, Nat.le_of_ble_eq_true rfl⟩) hm hw rfl hl.1 dL_law_424 ⟨Nat.le_of_ble_eq_true rfl, Nat.le_of_ble_eq_true rfl⟩ (fun H locs hw => ?_)
  refine lv_istore (lv' := [(5, .int 1), (0, .ref b), (1, .ref (a 0)), (2, .ref (a' 10)), (3, .ref o), (4, .int 0)]) hx hb dL_law_427 hl (by decide) rfl (fun ls hl => ?_)
  refine lv_aload_n hx hb dL_law_429 rfl (lv_at hl 3 rfl) ?_
  refine l_ld (k := 1) (v := xs 1) hx hb hX hbl hbA hw.2.2 (lv_at hl 1 rfl) (lv_at hl 5 rfl) rfl (by decide) dL_law_430 dL_law_431 dL_law_433 (by decide) dL_law_434 dL_law_435 ?_
  refine l_ld (k := 2) (v := xs 2) hx hb hX hbl hbA hw.2.2 (lv_at hl 1 rfl) (lv_at hl 5 rfl) rfl (by decide) dL_law_436 dL_law_437 dL_law_439 (by decide) dL_law_440 dL_law_441 ?_
  refine l_ld (k := 3) (v := xs 3) hx hb hX hbl hbA hw.2.2 (lv_at hl 1 rfl) (lv_at hl 5 rfl) rfl (by decide) dL_law_442 dL_law_443 dL_law_445 (by decide) dL_law_446 dL_law_447 ?_
  refine l_ld (k := 4) (v := xs 4) hx hb hX hbl hbA hw.2.2 (lv_at hl 1 rfl) (lv_at hl 5 rfl) rfl (by decide) dL_law_448 dL_law_449 dL_law_451 (by decide) dL_law_452 dL_law_453 ?_
  refine mc_i (mr_V (i := 10) (As := [.int (xs 1), .int (xs 2), .int (xs 3), .int (xs 4)]) (rest := []) ⟨hx, hb, hml, hown, hts⟩ (zX6_pass_1 l D a' cs' 12 (by omega) m_row0 (xs 1) (xs 2) (xs 3) (xs 4) h0 _) (cwV 4 hts gL_law_X6_pass rfl rfl rfl (by decide +kernel) ⟨Nat.le_of_ble_eq_true rfl, Nat.le_of_ble_eq_true rfl⟩) hm.2.1 hm.2.2.2.2.1 hw (by omega) mE_o kcX6 rfl hl.1 (Nat.le_of_ble_eq_true rfl) dL_law_454 ⟨Nat.le_of_ble_eq_true rfl, Nat.le_of_ble_eq_true rfl⟩) hw hA (fun H locs hw => ?_)
  refine lv_topi (fun v6 ev6 => ?_)
  refine lv_istore (lv' := [(6, .int v6), (5, .int 1), (0, .ref b), (1, .ref (a 0)), (2, .ref (a' 10)), (3, .ref o), (4, .int 0)]) hx hb dL_law_457 hl (by decide) rfl (fun ls hl => ?_)
  refine lv_aload_n hx hb dL_law_459 rfl (lv_at hl 4 rfl) ?_
  refine mc_i (mr_V (i := 10) (As := []) (rest := []) ⟨hx, hb, hml, hown, hts⟩ (zX6_thrown l D a' cs' 12 (by omega) _ _) (cwV 0 hts gL_law_X6_thrown rfl rfl rfl (by decide +kernel) ⟨Nat.le_of_ble_eq_true rfl, Nat.le_of_ble_eq_true rfl⟩) hm.2.1 hm.2.2.2.2.1 hw (by omega) mE_o kcX6 rfl hl.1 (Nat.le_of_ble_eq_true rfl) dL_law_460 ⟨Nat.le_of_ble_eq_true rfl, Nat.le_of_ble_eq_true rfl⟩) hw hA (fun H locs hw => ?_)
  refine w_top0 (v := 1) (rfl) ?_
  refine lv_iload hx hb dL_law_463 (lv_at hl 1 rfl) ?_
  refine lv_icmp_eq (tgt := 470) hx hb dL_law_465 (by decide) (fun _ => ?_) (fun c1 => absurd rfl c1)
  refine lv_iload hx hb dL_law_470 (lv_at hl 1 rfl) ?_
  refine lv_if_ne (tgt := 487) hx hb dL_law_472 (by decide) (fun _ => ?_) (fun c1 => absurd c1 (by decide))
  refine lv_goto (tgt := 1793) hx hb dL_law_487 (by decide) ?_
  refine W.widen (k := 600002) (n := 7302232) (Nat.le_of_ble_eq_true rfl) (Nat.le_of_ble_eq_true rfl) ?_
  exact l_fin C0 hw.2.2 (lv_sub hl [2, 6] rfl)
set_option maxHeartbeats 4000000 in
set_option maxRecDepth 100000 in
theorem ll_pass_3 {p : Program} {e : Env} {s : State} {m : MethodId} {below : List Frame} {meth : Method} {c : Code} {l : Launch} (hst : l.stackTraces = false) {b : Nat} {xs : Nat → Int32} (C0 : lw_At p s m meth c b 5 xs) {D : va_G} {a : Nat → Nat} {cs : Nat → ClassId} {a' : Nat → Nat} {cs' : Nat → ClassId} {o : Nat} {cJ : ClassId} {fl : Nat → Int64} (hm : lM D cs cs' cJ s) {H : Heap} {locs : List Loc} (hw : lW D a cs a' cs' o cJ fl s H locs) {ls : Array Slot} (hl : lv_has ls 9 [(0, .ref b), (1, .ref (a 0)), (2, .ref (a' 10)), (3, .ref o), (4, .int 0)]) (h1 : ¬ xs 1 < 1) (h2 : xs 1 ≤ 30) (h0 : g_X6_isIn (xs 1) 1 30 = 1) (hp : xs 2 < 0 ∨ ¬ xs 2 < 0 ∧ ¬ xs 2 ≤ 9 ∨ ¬ xs 2 < 0 ∧ xs 2 ≤ 9 ∧ xs 3 < 0 ∨ ¬ xs 2 < 0 ∧ xs 2 ≤ 9 ∧ ¬ xs 3 < 0 ∧ ¬ xs 3 ≤ 9) (g1 : g_X6_isIn (xs 2) 0 9 = 0) : W p l e room_1 s m #[Value.ref b] below meth c H locs 47 402 (lw_Z below #[Value.ref b] s) (F0 m 398 ls []) := by
  obtain ⟨hx, hb, hr, hml, hown, hts0, hX, hbl, hlocks, hgv⟩ := id C0
  have hts : ∀ w ∈ wsL_law, w.before #[Value.ref b] s = true := fun w h => hts0 w (wsL_law_in w h)
  have hown : s.vm.findClass RL = some m.cls := hown
  have hA : ∀ q, s.heap.size ≤ q → lA s q := fun _ h => h
  have hbA : ¬ lA s b := Nat.not_le.mpr hbl
  refine lv_aload_n hx hb dL_law_398 rfl (lv_at hl 1 rfl) ?_
  refine l_ld (k := 1) (v := xs 1) hx hb hX hbl hbA hw.2.2 (lv_at hl 0 rfl) (lv_at hl 4 rfl) rfl (by decide) dL_law_399 dL_law_400 dL_law_402 (by decide) dL_law_403 dL_law_404 ?_
  refine l_ld (k := 2) (v := xs 2) hx hb hX hbl hbA hw.2.2 (lv_at hl 0 rfl) (lv_at hl 4 rfl) rfl (by decide) dL_law_405 dL_law_406 dL_law_408 (by decide) dL_law_409 dL_law_410 ?_
  refine l_ld (k := 3) (v := xs 3) hx hb hX hbl hbA hw.2.2 (lv_at hl 0 rfl) (lv_at hl 4 rfl) rfl (by decide) dL_law_411 dL_law_412 dL_law_414 (by decide) dL_law_415 dL_law_416 ?_
  refine l_ld (k := 4) (v := xs 4) hx hb hX hbl hbA hw.2.2 (lv_at hl 0 rfl) (lv_at hl 4 rfl) rfl (by decide) dL_law_417 dL_law_418 dL_law_420 (by decide) dL_law_421 dL_law_422 ?_
  refine lv_aload_n hx hb dL_law_423 rfl (lv_at hl 3 rfl) ?_
  refine lh_x (As := [.ref (a 0), .int (xs 1), .int (xs 2), .int (xs 3), .int (xs 4), .ref o]) ⟨hx, hb, hml, hown, hts⟩ (zL_pass_x3 l hst D a cs f_new o cJ fl (lW_so hw) (xs 1) (xs 4) h1 h2 (xs 2) (xs 3) hp _) (vx_cwSW 6 hts gL_law_L_pass rfl rfl rfl (by decide +kernel) ⟨Nat.le_of_ble_eq_true rfl, Nat.le_of_ble_eq_true rfl⟩) hm hw rfl hl.1 dL_law_424 ⟨Nat.le_of_ble_eq_true rfl, Nat.le_of_ble_eq_true rfl⟩ (fun H locs hw => ?_)
  refine lv_istore (lv' := [(5, .int 1), (0, .ref b), (1, .ref (a 0)), (2, .ref (a' 10)), (3, .ref o), (4, .int 0)]) hx hb dL_law_427 hl (by decide) rfl (fun ls hl => ?_)
  refine lv_aload_n hx hb dL_law_429 rfl (lv_at hl 3 rfl) ?_
  refine l_ld (k := 1) (v := xs 1) hx hb hX hbl hbA hw.2.2 (lv_at hl 1 rfl) (lv_at hl 5 rfl) rfl (by decide) dL_law_430 dL_law_431 dL_law_433 (by decide) dL_law_434 dL_law_435 ?_
  refine l_ld (k := 2) (v := xs 2) hx hb hX hbl hbA hw.2.2 (lv_at hl 1 rfl) (lv_at hl 5 rfl) rfl (by decide) dL_law_436 dL_law_437 dL_law_439 (by decide) dL_law_440 dL_law_441 ?_
  refine l_ld (k := 3) (v := xs 3) hx hb hX hbl hbA hw.2.2 (lv_at hl 1 rfl) (lv_at hl 5 rfl) rfl (by decide) dL_law_442 dL_law_443 dL_law_445 (by decide) dL_law_446 dL_law_447 ?_
  refine l_ld (k := 4) (v := xs 4) hx hb hX hbl hbA hw.2.2 (lv_at hl 1 rfl) (lv_at hl 5 rfl) rfl (by decide) dL_law_448 dL_law_449 dL_law_451 (by decide) dL_law_452 dL_law_453 ?_
  refine mc_i (mr_V (i := 10) (As := [.int (xs 1), .int (xs 2), .int (xs 3), .int (xs 4)]) (rest := []) ⟨hx, hb, hml, hown, hts⟩ (zX6_pass_2 l D a' cs' 12 (by omega) m_row0 (xs 1) (xs 2) (xs 3) (xs 4) h0 g1 _) (cwV 4 hts gL_law_X6_pass rfl rfl rfl (by decide +kernel) ⟨Nat.le_of_ble_eq_true rfl, Nat.le_of_ble_eq_true rfl⟩) hm.2.1 hm.2.2.2.2.1 hw (by omega) mE_o kcX6 rfl hl.1 (Nat.le_of_ble_eq_true rfl) dL_law_454 ⟨Nat.le_of_ble_eq_true rfl, Nat.le_of_ble_eq_true rfl⟩) hw hA (fun H locs hw => ?_)
  refine lv_topi (fun v6 ev6 => ?_)
  refine lv_istore (lv' := [(6, .int v6), (5, .int 1), (0, .ref b), (1, .ref (a 0)), (2, .ref (a' 10)), (3, .ref o), (4, .int 0)]) hx hb dL_law_457 hl (by decide) rfl (fun ls hl => ?_)
  refine lv_aload_n hx hb dL_law_459 rfl (lv_at hl 4 rfl) ?_
  refine mc_i (mr_V (i := 10) (As := []) (rest := []) ⟨hx, hb, hml, hown, hts⟩ (zX6_thrown l D a' cs' 12 (by omega) _ _) (cwV 0 hts gL_law_X6_thrown rfl rfl rfl (by decide +kernel) ⟨Nat.le_of_ble_eq_true rfl, Nat.le_of_ble_eq_true rfl⟩) hm.2.1 hm.2.2.2.2.1 hw (by omega) mE_o kcX6 rfl hl.1 (Nat.le_of_ble_eq_true rfl) dL_law_460 ⟨Nat.le_of_ble_eq_true rfl, Nat.le_of_ble_eq_true rfl⟩) hw hA (fun H locs hw => ?_)
  refine w_top0 (v := 1) (rfl) ?_
  refine lv_iload hx hb dL_law_463 (lv_at hl 1 rfl) ?_
  refine lv_icmp_eq (tgt := 470) hx hb dL_law_465 (by decide) (fun _ => ?_) (fun c1 => absurd rfl c1)
  refine lv_iload hx hb dL_law_470 (lv_at hl 1 rfl) ?_
  refine lv_if_ne (tgt := 487) hx hb dL_law_472 (by decide) (fun _ => ?_) (fun c1 => absurd c1 (by decide))
  refine lv_goto (tgt := 1793) hx hb dL_law_487 (by decide) ?_
  refine W.widen (k := 600002) (n := 7302232) (Nat.le_of_ble_eq_true rfl) (Nat.le_of_ble_eq_true rfl) ?_
  exact l_fin C0 hw.2.2 (lv_sub hl [2, 6] rfl)
set_option maxHeartbeats 4000000 in
set_option maxRecDepth 100000 in
theorem ll_pass_4 {p : Program} {e : Env} {s : State} {m : MethodId} {below : List Frame} {meth : Method} {c : Code} {l : Launch} (hst : l.stackTraces = false) {b : Nat} {xs : Nat → Int32} (C0 : lw_At p s m meth c b 5 xs) {D : va_G} {a : Nat → Nat} {cs : Nat → ClassId} {a' : Nat → Nat} {cs' : Nat → ClassId} {o : Nat} {cJ : ClassId} {fl : Nat → Int64} (hm : lM D cs cs' cJ s) {H : Heap} {locs : List Loc} (hw : lW D a cs a' cs' o cJ fl s H locs) {ls : Array Slot} (hl : lv_has ls 9 [(0, .ref b), (1, .ref (a 0)), (2, .ref (a' 10)), (3, .ref o), (4, .int 0)]) (h1 : ¬ xs 1 < 1) (h2 : xs 1 ≤ 30) (h0 : g_X6_isIn (xs 1) 1 30 = 1) (hp : xs 2 < 0 ∨ ¬ xs 2 < 0 ∧ ¬ xs 2 ≤ 9 ∨ ¬ xs 2 < 0 ∧ xs 2 ≤ 9 ∧ xs 3 < 0 ∨ ¬ xs 2 < 0 ∧ xs 2 ≤ 9 ∧ ¬ xs 3 < 0 ∧ ¬ xs 3 ≤ 9) (g1 : g_X6_isIn (xs 2) 0 9 = 1) (g2 : g_X6_isIn (xs 3) 0 9 = 0) : W p l e room_1 s m #[Value.ref b] below meth c H locs 47 402 (lw_Z below #[Value.ref b] s) (F0 m 398 ls []) := by
  obtain ⟨hx, hb, hr, hml, hown, hts0, hX, hbl, hlocks, hgv⟩ := id C0
  have hts : ∀ w ∈ wsL_law, w.before #[Value.ref b] s = true := fun w h => hts0 w (wsL_law_in w h)
  have hown : s.vm.findClass RL = some m.cls := hown
  have hA : ∀ q, s.heap.size ≤ q → lA s q := fun _ h => h
  have hbA : ¬ lA s b := Nat.not_le.mpr hbl
  refine lv_aload_n hx hb dL_law_398 rfl (lv_at hl 1 rfl) ?_
  refine l_ld (k := 1) (v := xs 1) hx hb hX hbl hbA hw.2.2 (lv_at hl 0 rfl) (lv_at hl 4 rfl) rfl (by decide) dL_law_399 dL_law_400 dL_law_402 (by decide) dL_law_403 dL_law_404 ?_
  refine l_ld (k := 2) (v := xs 2) hx hb hX hbl hbA hw.2.2 (lv_at hl 0 rfl) (lv_at hl 4 rfl) rfl (by decide) dL_law_405 dL_law_406 dL_law_408 (by decide) dL_law_409 dL_law_410 ?_
  refine l_ld (k := 3) (v := xs 3) hx hb hX hbl hbA hw.2.2 (lv_at hl 0 rfl) (lv_at hl 4 rfl) rfl (by decide) dL_law_411 dL_law_412 dL_law_414 (by decide) dL_law_415 dL_law_416 ?_
  refine l_ld (k := 4) (v := xs 4) hx hb hX hbl hbA hw.2.2 (lv_at hl 0 rfl) (lv_at hl 4 rfl) rfl (by decide) dL_law_417 dL_law_418 dL_law_420 (by decide) dL_law_421 dL_law_422 ?_
  refine lv_aload_n hx hb dL_law_423 rfl (lv_at hl 3 rfl) ?_
  refine lh_x (As := [.ref (a 0), .int (xs 1), .int (xs 2), .int (xs 3), .int (xs 4), .ref o]) ⟨hx, hb, hml, hown, hts⟩ (zL_pass_x3 l hst D a cs f_new o cJ fl (lW_so hw) (xs 1) (xs 4) h1 h2 (xs 2) (xs 3) hp _) (vx_cwSW 6 hts gL_law_L_pass rfl rfl rfl (by decide +kernel) ⟨Nat.le_of_ble_eq_true rfl, Nat.le_of_ble_eq_true rfl⟩) hm hw rfl hl.1 dL_law_424 ⟨Nat.le_of_ble_eq_true rfl, Nat.le_of_ble_eq_true rfl⟩ (fun H locs hw => ?_)
  refine lv_istore (lv' := [(5, .int 1), (0, .ref b), (1, .ref (a 0)), (2, .ref (a' 10)), (3, .ref o), (4, .int 0)]) hx hb dL_law_427 hl (by decide) rfl (fun ls hl => ?_)
  refine lv_aload_n hx hb dL_law_429 rfl (lv_at hl 3 rfl) ?_
  refine l_ld (k := 1) (v := xs 1) hx hb hX hbl hbA hw.2.2 (lv_at hl 1 rfl) (lv_at hl 5 rfl) rfl (by decide) dL_law_430 dL_law_431 dL_law_433 (by decide) dL_law_434 dL_law_435 ?_
  refine l_ld (k := 2) (v := xs 2) hx hb hX hbl hbA hw.2.2 (lv_at hl 1 rfl) (lv_at hl 5 rfl) rfl (by decide) dL_law_436 dL_law_437 dL_law_439 (by decide) dL_law_440 dL_law_441 ?_
  refine l_ld (k := 3) (v := xs 3) hx hb hX hbl hbA hw.2.2 (lv_at hl 1 rfl) (lv_at hl 5 rfl) rfl (by decide) dL_law_442 dL_law_443 dL_law_445 (by decide) dL_law_446 dL_law_447 ?_
  refine l_ld (k := 4) (v := xs 4) hx hb hX hbl hbA hw.2.2 (lv_at hl 1 rfl) (lv_at hl 5 rfl) rfl (by decide) dL_law_448 dL_law_449 dL_law_451 (by decide) dL_law_452 dL_law_453 ?_
  refine mc_i (mr_V (i := 10) (As := [.int (xs 1), .int (xs 2), .int (xs 3), .int (xs 4)]) (rest := []) ⟨hx, hb, hml, hown, hts⟩ (zX6_pass_3 l D a' cs' 12 (by omega) m_row0 (xs 1) (xs 2) (xs 3) (xs 4) h0 g1 g2 _) (cwV 4 hts gL_law_X6_pass rfl rfl rfl (by decide +kernel) ⟨Nat.le_of_ble_eq_true rfl, Nat.le_of_ble_eq_true rfl⟩) hm.2.1 hm.2.2.2.2.1 hw (by omega) mE_o kcX6 rfl hl.1 (Nat.le_of_ble_eq_true rfl) dL_law_454 ⟨Nat.le_of_ble_eq_true rfl, Nat.le_of_ble_eq_true rfl⟩) hw hA (fun H locs hw => ?_)
  refine lv_topi (fun v6 ev6 => ?_)
  refine lv_istore (lv' := [(6, .int v6), (5, .int 1), (0, .ref b), (1, .ref (a 0)), (2, .ref (a' 10)), (3, .ref o), (4, .int 0)]) hx hb dL_law_457 hl (by decide) rfl (fun ls hl => ?_)
  refine lv_aload_n hx hb dL_law_459 rfl (lv_at hl 4 rfl) ?_
  refine mc_i (mr_V (i := 10) (As := []) (rest := []) ⟨hx, hb, hml, hown, hts⟩ (zX6_thrown l D a' cs' 12 (by omega) _ _) (cwV 0 hts gL_law_X6_thrown rfl rfl rfl (by decide +kernel) ⟨Nat.le_of_ble_eq_true rfl, Nat.le_of_ble_eq_true rfl⟩) hm.2.1 hm.2.2.2.2.1 hw (by omega) mE_o kcX6 rfl hl.1 (Nat.le_of_ble_eq_true rfl) dL_law_460 ⟨Nat.le_of_ble_eq_true rfl, Nat.le_of_ble_eq_true rfl⟩) hw hA (fun H locs hw => ?_)
  refine w_top0 (v := 1) (rfl) ?_
  refine lv_iload hx hb dL_law_463 (lv_at hl 1 rfl) ?_
  refine lv_icmp_eq (tgt := 470) hx hb dL_law_465 (by decide) (fun _ => ?_) (fun c1 => absurd rfl c1)
  refine lv_iload hx hb dL_law_470 (lv_at hl 1 rfl) ?_
  refine lv_if_ne (tgt := 487) hx hb dL_law_472 (by decide) (fun _ => ?_) (fun c1 => absurd c1 (by decide))
  refine lv_goto (tgt := 1793) hx hb dL_law_487 (by decide) ?_
  refine W.widen (k := 600002) (n := 7302232) (Nat.le_of_ble_eq_true rfl) (Nat.le_of_ble_eq_true rfl) ?_
  exact l_fin C0 hw.2.2 (lv_sub hl [2, 6] rfl)
set_option maxHeartbeats 4000000 in
set_option maxRecDepth 100000 in
theorem ll_pass_5 {p : Program} {e : Env} {s : State} {m : MethodId} {below : List Frame} {meth : Method} {c : Code} {l : Launch} (hst : l.stackTraces = false) {b : Nat} {xs : Nat → Int32} (C0 : lw_At p s m meth c b 5 xs) {D : va_G} {a : Nat → Nat} {cs : Nat → ClassId} {a' : Nat → Nat} {cs' : Nat → ClassId} {o : Nat} {cJ : ClassId} {fl : Nat → Int64} (hm : lM D cs cs' cJ s) {H : Heap} {locs : List Loc} (hw : lW D a cs a' cs' o cJ fl s H locs) {ls : Array Slot} (hl : lv_has ls 9 [(0, .ref b), (1, .ref (a 0)), (2, .ref (a' 10)), (3, .ref o), (4, .int 0)]) (h1 : ¬ xs 1 < 1) (h2 : xs 1 ≤ 30) (h0 : g_X6_isIn (xs 1) 1 30 = 1) (hx0 : ¬ xs 2 < 0) (hx9 : xs 2 ≤ 9) (hy0 : ¬ xs 3 < 0) (hy9 : xs 3 ≤ 9) (g1 : g_X6_isIn (xs 2) 0 9 = 1) (g2 : g_X6_isIn (xs 3) 0 9 = 1) (h3 : xs 4 < 0) (g3 : g_X6_isIn (xs 4) 0 40 = 0) : W p l e room_1 s m #[Value.ref b] below meth c H locs 47 402 (lw_Z below #[Value.ref b] s) (F0 m 398 ls []) := by
  obtain ⟨hx, hb, hr, hml, hown, hts0, hX, hbl, hlocks, hgv⟩ := id C0
  have hts : ∀ w ∈ wsL_law, w.before #[Value.ref b] s = true := fun w h => hts0 w (wsL_law_in w h)
  have hown : s.vm.findClass RL = some m.cls := hown
  have hA : ∀ q, s.heap.size ≤ q → lA s q := fun _ h => h
  have hbA : ¬ lA s b := Nat.not_le.mpr hbl
  refine lv_aload_n hx hb dL_law_398 rfl (lv_at hl 1 rfl) ?_
  refine l_ld (k := 1) (v := xs 1) hx hb hX hbl hbA hw.2.2 (lv_at hl 0 rfl) (lv_at hl 4 rfl) rfl (by decide) dL_law_399 dL_law_400 dL_law_402 (by decide) dL_law_403 dL_law_404 ?_
  refine l_ld (k := 2) (v := xs 2) hx hb hX hbl hbA hw.2.2 (lv_at hl 0 rfl) (lv_at hl 4 rfl) rfl (by decide) dL_law_405 dL_law_406 dL_law_408 (by decide) dL_law_409 dL_law_410 ?_
  refine l_ld (k := 3) (v := xs 3) hx hb hX hbl hbA hw.2.2 (lv_at hl 0 rfl) (lv_at hl 4 rfl) rfl (by decide) dL_law_411 dL_law_412 dL_law_414 (by decide) dL_law_415 dL_law_416 ?_
  refine l_ld (k := 4) (v := xs 4) hx hb hX hbl hbA hw.2.2 (lv_at hl 0 rfl) (lv_at hl 4 rfl) rfl (by decide) dL_law_417 dL_law_418 dL_law_420 (by decide) dL_law_421 dL_law_422 ?_
  refine lv_aload_n hx hb dL_law_423 rfl (lv_at hl 3 rfl) ?_
  refine lh_x (As := [.ref (a 0), .int (xs 1), .int (xs 2), .int (xs 3), .int (xs 4), .ref o]) ⟨hx, hb, hml, hown, hts⟩ (zL_pass_x4 l hst D a cs f_new o cJ fl (lW_so hw) (xs 1) (xs 2) (xs 3) (xs 4) h1 h2 hx0 hx9 hy0 hy9 h3 _) (vx_cwSW 6 hts gL_law_L_pass rfl rfl rfl (by decide +kernel) ⟨Nat.le_of_ble_eq_true rfl, Nat.le_of_ble_eq_true rfl⟩) hm hw rfl hl.1 dL_law_424 ⟨Nat.le_of_ble_eq_true rfl, Nat.le_of_ble_eq_true rfl⟩ (fun H locs hw => ?_)
  refine lv_istore (lv' := [(5, .int 1), (0, .ref b), (1, .ref (a 0)), (2, .ref (a' 10)), (3, .ref o), (4, .int 0)]) hx hb dL_law_427 hl (by decide) rfl (fun ls hl => ?_)
  refine lv_aload_n hx hb dL_law_429 rfl (lv_at hl 3 rfl) ?_
  refine l_ld (k := 1) (v := xs 1) hx hb hX hbl hbA hw.2.2 (lv_at hl 1 rfl) (lv_at hl 5 rfl) rfl (by decide) dL_law_430 dL_law_431 dL_law_433 (by decide) dL_law_434 dL_law_435 ?_
  refine l_ld (k := 2) (v := xs 2) hx hb hX hbl hbA hw.2.2 (lv_at hl 1 rfl) (lv_at hl 5 rfl) rfl (by decide) dL_law_436 dL_law_437 dL_law_439 (by decide) dL_law_440 dL_law_441 ?_
  refine l_ld (k := 3) (v := xs 3) hx hb hX hbl hbA hw.2.2 (lv_at hl 1 rfl) (lv_at hl 5 rfl) rfl (by decide) dL_law_442 dL_law_443 dL_law_445 (by decide) dL_law_446 dL_law_447 ?_
  refine l_ld (k := 4) (v := xs 4) hx hb hX hbl hbA hw.2.2 (lv_at hl 1 rfl) (lv_at hl 5 rfl) rfl (by decide) dL_law_448 dL_law_449 dL_law_451 (by decide) dL_law_452 dL_law_453 ?_
  refine mc_i (mr_V (i := 10) (As := [.int (xs 1), .int (xs 2), .int (xs 3), .int (xs 4)]) (rest := []) ⟨hx, hb, hml, hown, hts⟩ (zX6_pass_4 l D a' cs' 12 (by omega) m_row0 (xs 1) (xs 2) (xs 3) (xs 4) h0 g1 g2 g3 _) (cwV 4 hts gL_law_X6_pass rfl rfl rfl (by decide +kernel) ⟨Nat.le_of_ble_eq_true rfl, Nat.le_of_ble_eq_true rfl⟩) hm.2.1 hm.2.2.2.2.1 hw (by omega) mE_o kcX6 rfl hl.1 (Nat.le_of_ble_eq_true rfl) dL_law_454 ⟨Nat.le_of_ble_eq_true rfl, Nat.le_of_ble_eq_true rfl⟩) hw hA (fun H locs hw => ?_)
  refine lv_topi (fun v6 ev6 => ?_)
  refine lv_istore (lv' := [(6, .int v6), (5, .int 1), (0, .ref b), (1, .ref (a 0)), (2, .ref (a' 10)), (3, .ref o), (4, .int 0)]) hx hb dL_law_457 hl (by decide) rfl (fun ls hl => ?_)
  refine lv_aload_n hx hb dL_law_459 rfl (lv_at hl 4 rfl) ?_
  refine mc_i (mr_V (i := 10) (As := []) (rest := []) ⟨hx, hb, hml, hown, hts⟩ (zX6_thrown l D a' cs' 12 (by omega) _ _) (cwV 0 hts gL_law_X6_thrown rfl rfl rfl (by decide +kernel) ⟨Nat.le_of_ble_eq_true rfl, Nat.le_of_ble_eq_true rfl⟩) hm.2.1 hm.2.2.2.2.1 hw (by omega) mE_o kcX6 rfl hl.1 (Nat.le_of_ble_eq_true rfl) dL_law_460 ⟨Nat.le_of_ble_eq_true rfl, Nat.le_of_ble_eq_true rfl⟩) hw hA (fun H locs hw => ?_)
  refine w_top0 (v := 1) (rfl) ?_
  refine lv_iload hx hb dL_law_463 (lv_at hl 1 rfl) ?_
  refine lv_icmp_eq (tgt := 470) hx hb dL_law_465 (by decide) (fun _ => ?_) (fun c1 => absurd rfl c1)
  refine lv_iload hx hb dL_law_470 (lv_at hl 1 rfl) ?_
  refine lv_if_ne (tgt := 487) hx hb dL_law_472 (by decide) (fun _ => ?_) (fun c1 => absurd c1 (by decide))
  refine lv_goto (tgt := 1793) hx hb dL_law_487 (by decide) ?_
  refine W.widen (k := 600002) (n := 7302232) (Nat.le_of_ble_eq_true rfl) (Nat.le_of_ble_eq_true rfl) ?_
  exact l_fin C0 hw.2.2 (lv_sub hl [2, 6] rfl)
set_option maxHeartbeats 4000000 in
set_option maxRecDepth 100000 in
theorem ll_pass_6 {p : Program} {e : Env} {s : State} {m : MethodId} {below : List Frame} {meth : Method} {c : Code} {l : Launch} (hst : l.stackTraces = false) {b : Nat} {xs : Nat → Int32} (C0 : lw_At p s m meth c b 5 xs) {D : va_G} {a : Nat → Nat} {cs : Nat → ClassId} {a' : Nat → Nat} {cs' : Nat → ClassId} {o : Nat} {cJ : ClassId} {fl : Nat → Int64} (hm : lM D cs cs' cJ s) {H : Heap} {locs : List Loc} (hw : lW D a cs a' cs' o cJ fl s H locs) {ls : Array Slot} (hl : lv_has ls 9 [(0, .ref b), (1, .ref (a 0)), (2, .ref (a' 10)), (3, .ref o), (4, .int 0)]) (h1 : ¬ xs 1 < 1) (h2 : xs 1 ≤ 30) (h0 : g_X6_isIn (xs 1) 1 30 = 1) (hx0 : ¬ xs 2 < 0) (hx9 : xs 2 ≤ 9) (hy0 : ¬ xs 3 < 0) (hy9 : xs 3 ≤ 9) (g1 : g_X6_isIn (xs 2) 0 9 = 1) (g2 : g_X6_isIn (xs 3) 0 9 = 1) (h3 : ¬ xs 4 < 0) (h4 : ¬ xs 4 ≤ 40) (g3 : g_X6_isIn (xs 4) 0 40 = 0) : W p l e room_1 s m #[Value.ref b] below meth c H locs 47 402 (lw_Z below #[Value.ref b] s) (F0 m 398 ls []) := by
  obtain ⟨hx, hb, hr, hml, hown, hts0, hX, hbl, hlocks, hgv⟩ := id C0
  have hts : ∀ w ∈ wsL_law, w.before #[Value.ref b] s = true := fun w h => hts0 w (wsL_law_in w h)
  have hown : s.vm.findClass RL = some m.cls := hown
  have hA : ∀ q, s.heap.size ≤ q → lA s q := fun _ h => h
  have hbA : ¬ lA s b := Nat.not_le.mpr hbl
  refine lv_aload_n hx hb dL_law_398 rfl (lv_at hl 1 rfl) ?_
  refine l_ld (k := 1) (v := xs 1) hx hb hX hbl hbA hw.2.2 (lv_at hl 0 rfl) (lv_at hl 4 rfl) rfl (by decide) dL_law_399 dL_law_400 dL_law_402 (by decide) dL_law_403 dL_law_404 ?_
  refine l_ld (k := 2) (v := xs 2) hx hb hX hbl hbA hw.2.2 (lv_at hl 0 rfl) (lv_at hl 4 rfl) rfl (by decide) dL_law_405 dL_law_406 dL_law_408 (by decide) dL_law_409 dL_law_410 ?_
  refine l_ld (k := 3) (v := xs 3) hx hb hX hbl hbA hw.2.2 (lv_at hl 0 rfl) (lv_at hl 4 rfl) rfl (by decide) dL_law_411 dL_law_412 dL_law_414 (by decide) dL_law_415 dL_law_416 ?_
  refine l_ld (k := 4) (v := xs 4) hx hb hX hbl hbA hw.2.2 (lv_at hl 0 rfl) (lv_at hl 4 rfl) rfl (by decide) dL_law_417 dL_law_418 dL_law_420 (by decide) dL_law_421 dL_law_422 ?_
  refine lv_aload_n hx hb dL_law_423 rfl (lv_at hl 3 rfl) ?_
  refine lh_x (As := [.ref (a 0), .int (xs 1), .int (xs 2), .int (xs 3), .int (xs 4), .ref o]) ⟨hx, hb, hml, hown, hts⟩ (zL_pass_x5 l hst D a cs f_new o cJ fl (lW_so hw) (xs 1) (xs 2) (xs 3) (xs 4) h1 h2 hx0 hx9 hy0 hy9 h3 h4 _) (vx_cwSW 6 hts gL_law_L_pass rfl rfl rfl (by decide +kernel) ⟨Nat.le_of_ble_eq_true rfl, Nat.le_of_ble_eq_true rfl⟩) hm hw rfl hl.1 dL_law_424 ⟨Nat.le_of_ble_eq_true rfl, Nat.le_of_ble_eq_true rfl⟩ (fun H locs hw => ?_)
  refine lv_istore (lv' := [(5, .int 1), (0, .ref b), (1, .ref (a 0)), (2, .ref (a' 10)), (3, .ref o), (4, .int 0)]) hx hb dL_law_427 hl (by decide) rfl (fun ls hl => ?_)
  refine lv_aload_n hx hb dL_law_429 rfl (lv_at hl 3 rfl) ?_
  refine l_ld (k := 1) (v := xs 1) hx hb hX hbl hbA hw.2.2 (lv_at hl 1 rfl) (lv_at hl 5 rfl) rfl (by decide) dL_law_430 dL_law_431 dL_law_433 (by decide) dL_law_434 dL_law_435 ?_
  refine l_ld (k := 2) (v := xs 2) hx hb hX hbl hbA hw.2.2 (lv_at hl 1 rfl) (lv_at hl 5 rfl) rfl (by decide) dL_law_436 dL_law_437 dL_law_439 (by decide) dL_law_440 dL_law_441 ?_
  refine l_ld (k := 3) (v := xs 3) hx hb hX hbl hbA hw.2.2 (lv_at hl 1 rfl) (lv_at hl 5 rfl) rfl (by decide) dL_law_442 dL_law_443 dL_law_445 (by decide) dL_law_446 dL_law_447 ?_
  refine l_ld (k := 4) (v := xs 4) hx hb hX hbl hbA hw.2.2 (lv_at hl 1 rfl) (lv_at hl 5 rfl) rfl (by decide) dL_law_448 dL_law_449 dL_law_451 (by decide) dL_law_452 dL_law_453 ?_
  refine mc_i (mr_V (i := 10) (As := [.int (xs 1), .int (xs 2), .int (xs 3), .int (xs 4)]) (rest := []) ⟨hx, hb, hml, hown, hts⟩ (zX6_pass_4 l D a' cs' 12 (by omega) m_row0 (xs 1) (xs 2) (xs 3) (xs 4) h0 g1 g2 g3 _) (cwV 4 hts gL_law_X6_pass rfl rfl rfl (by decide +kernel) ⟨Nat.le_of_ble_eq_true rfl, Nat.le_of_ble_eq_true rfl⟩) hm.2.1 hm.2.2.2.2.1 hw (by omega) mE_o kcX6 rfl hl.1 (Nat.le_of_ble_eq_true rfl) dL_law_454 ⟨Nat.le_of_ble_eq_true rfl, Nat.le_of_ble_eq_true rfl⟩) hw hA (fun H locs hw => ?_)
  refine lv_topi (fun v6 ev6 => ?_)
  refine lv_istore (lv' := [(6, .int v6), (5, .int 1), (0, .ref b), (1, .ref (a 0)), (2, .ref (a' 10)), (3, .ref o), (4, .int 0)]) hx hb dL_law_457 hl (by decide) rfl (fun ls hl => ?_)
  refine lv_aload_n hx hb dL_law_459 rfl (lv_at hl 4 rfl) ?_
  refine mc_i (mr_V (i := 10) (As := []) (rest := []) ⟨hx, hb, hml, hown, hts⟩ (zX6_thrown l D a' cs' 12 (by omega) _ _) (cwV 0 hts gL_law_X6_thrown rfl rfl rfl (by decide +kernel) ⟨Nat.le_of_ble_eq_true rfl, Nat.le_of_ble_eq_true rfl⟩) hm.2.1 hm.2.2.2.2.1 hw (by omega) mE_o kcX6 rfl hl.1 (Nat.le_of_ble_eq_true rfl) dL_law_460 ⟨Nat.le_of_ble_eq_true rfl, Nat.le_of_ble_eq_true rfl⟩) hw hA (fun H locs hw => ?_)
  refine w_top0 (v := 1) (rfl) ?_
  refine lv_iload hx hb dL_law_463 (lv_at hl 1 rfl) ?_
  refine lv_icmp_eq (tgt := 470) hx hb dL_law_465 (by decide) (fun _ => ?_) (fun c1 => absurd rfl c1)
  refine lv_iload hx hb dL_law_470 (lv_at hl 1 rfl) ?_
  refine lv_if_ne (tgt := 487) hx hb dL_law_472 (by decide) (fun _ => ?_) (fun c1 => absurd c1 (by decide))
  refine lv_goto (tgt := 1793) hx hb dL_law_487 (by decide) ?_
  refine W.widen (k := 600002) (n := 7302232) (Nat.le_of_ble_eq_true rfl) (Nat.le_of_ble_eq_true rfl) ?_
  exact l_fin C0 hw.2.2 (lv_sub hl [2, 6] rfl)
set_option maxHeartbeats 4000000 in
set_option maxRecDepth 100000 in
theorem ll_pass_7 {p : Program} {e : Env} {s : State} {m : MethodId} {below : List Frame} {meth : Method} {c : Code} {l : Launch} (hst : l.stackTraces = false) {b : Nat} {xs : Nat → Int32} (C0 : lw_At p s m meth c b 5 xs) {D : va_G} {a : Nat → Nat} {cs : Nat → ClassId} {a' : Nat → Nat} {cs' : Nat → ClassId} {o : Nat} {cJ : ClassId} {fl : Nat → Int64} (hm : lM D cs cs' cJ s) {H : Heap} {locs : List Loc} (hw : lW D a cs a' cs' o cJ fl s H locs) {ls : Array Slot} (hl : lv_has ls 9 [(0, .ref b), (1, .ref (a 0)), (2, .ref (a' 10)), (3, .ref o), (4, .int 0)]) (n0 : Nat) (hn : 1 ≤ n0 ∧ n0 ≤ 30) (hk1 : xs 1 = nI n0) (h0 : g_X6_isIn (nI n0) 1 30 = 1) (hx0 : ¬ xs 2 < 0) (hx9 : xs 2 ≤ 9) (hy0 : ¬ xs 3 < 0) (hy9 : xs 3 ≤ 9) (g1 : g_X6_isIn (xs 2) 0 9 = 1) (g2 : g_X6_isIn (xs 3) 0 9 = 1) (h3 : ¬ xs 4 < 0) (h4 : xs 4 ≤ 40) (g3 : g_X6_isIn (xs 4) 0 40 = 1) : W p l e room_1 s m #[Value.ref b] below meth c H locs 47 402 (lw_Z below #[Value.ref b] s) (F0 m 398 ls []) := by
  obtain ⟨hx, hb, hr, hml, hown, hts0, hX, hbl, hlocks, hgv⟩ := id C0
  have hts : ∀ w ∈ wsL_law, w.before #[Value.ref b] s = true := fun w h => hts0 w (wsL_law_in w h)
  have hown : s.vm.findClass RL = some m.cls := hown
  have hA : ∀ q, s.heap.size ≤ q → lA s q := fun _ h => h
  have hbA : ¬ lA s b := Nat.not_le.mpr hbl
  refine lv_aload_n hx hb dL_law_398 rfl (lv_at hl 1 rfl) ?_
  refine l_ld (k := 1) (v := nI n0) hx hb hX hbl hbA hw.2.2 (lv_at hl 0 rfl) (lv_at hl 4 rfl) hk1 (by decide) dL_law_399 dL_law_400 dL_law_402 (by decide) dL_law_403 dL_law_404 ?_
  refine l_ld (k := 2) (v := xs 2) hx hb hX hbl hbA hw.2.2 (lv_at hl 0 rfl) (lv_at hl 4 rfl) rfl (by decide) dL_law_405 dL_law_406 dL_law_408 (by decide) dL_law_409 dL_law_410 ?_
  refine l_ld (k := 3) (v := xs 3) hx hb hX hbl hbA hw.2.2 (lv_at hl 0 rfl) (lv_at hl 4 rfl) rfl (by decide) dL_law_411 dL_law_412 dL_law_414 (by decide) dL_law_415 dL_law_416 ?_
  refine l_ld (k := 4) (v := xs 4) hx hb hX hbl hbA hw.2.2 (lv_at hl 0 rfl) (lv_at hl 4 rfl) rfl (by decide) dL_law_417 dL_law_418 dL_law_420 (by decide) dL_law_421 dL_law_422 ?_
  refine lv_aload_n hx hb dL_law_423 rfl (lv_at hl 3 rfl) ?_
  refine lh_n (As := [.ref (a 0), .int (nI n0), .int (xs 2), .int (xs 3), .int (xs 4), .ref o]) ⟨hx, hb, hml, hown, hts⟩ (zL_pass_n l hst D a cs f_new o cJ fl (lW_so hw) n0 hn (xs 2) (xs 3) (xs 4) hx0 hx9 hy0 hy9 h3 h4 (d30 hn.2) _) (vx_cwSW 6 hts gL_law_L_pass rfl rfl rfl (by decide +kernel) ⟨Nat.le_of_ble_eq_true rfl, Nat.le_of_ble_eq_true rfl⟩) hm hw rfl hl.1 dL_law_424 ⟨Nat.le_of_ble_eq_true rfl, Nat.le_of_ble_eq_true rfl⟩ (fun u H locs hu hw => ?_)
  refine lv_istore (lv' := [(5, .int 0), (0, .ref b), (1, .ref (a 0)), (2, .ref (a' 10)), (3, .ref o), (4, .int 0)]) hx hb dL_law_427 hl (by decide) rfl (fun ls hl => ?_)
  refine lv_aload_n hx hb dL_law_429 rfl (lv_at hl 3 rfl) ?_
  refine l_ld (k := 1) (v := nI n0) hx hb hX hbl hbA hw.2.2 (lv_at hl 1 rfl) (lv_at hl 5 rfl) hk1 (by decide) dL_law_430 dL_law_431 dL_law_433 (by decide) dL_law_434 dL_law_435 ?_
  refine l_ld (k := 2) (v := xs 2) hx hb hX hbl hbA hw.2.2 (lv_at hl 1 rfl) (lv_at hl 5 rfl) rfl (by decide) dL_law_436 dL_law_437 dL_law_439 (by decide) dL_law_440 dL_law_441 ?_
  refine l_ld (k := 3) (v := xs 3) hx hb hX hbl hbA hw.2.2 (lv_at hl 1 rfl) (lv_at hl 5 rfl) rfl (by decide) dL_law_442 dL_law_443 dL_law_445 (by decide) dL_law_446 dL_law_447 ?_
  refine l_ld (k := 4) (v := xs 4) hx hb hX hbl hbA hw.2.2 (lv_at hl 1 rfl) (lv_at hl 5 rfl) rfl (by decide) dL_law_448 dL_law_449 dL_law_451 (by decide) dL_law_452 dL_law_453 ?_
  refine mc_i (mr_V (i := 10) (As := [.int (nI n0), .int (xs 2), .int (xs 3), .int (xs 4)]) (rest := []) ⟨hx, hb, hml, hown, hts⟩ (zX6_pass_5 l D a' cs' 12 (by omega) m_row0 n0 hn.2 (xs 2) (xs 3) (xs 4) h0 g1 g2 g3 (d30 hn.2) (mFr_ar fr0) _) (cwV 4 hts gL_law_X6_pass rfl rfl rfl (by decide +kernel) ⟨Nat.le_of_ble_eq_true rfl, Nat.le_of_ble_eq_true rfl⟩) hm.2.1 hm.2.2.2.2.1 hw (by omega) mE_o kcX6 rfl hl.1 (Nat.le_of_ble_eq_true rfl) dL_law_454 ⟨Nat.le_of_ble_eq_true rfl, Nat.le_of_ble_eq_true rfl⟩) hw hA (fun H locs hw => ?_)
  refine lv_topi (fun v6 ev6 => ?_)
  refine lv_istore (lv' := [(6, .int v6), (5, .int 0), (0, .ref b), (1, .ref (a 0)), (2, .ref (a' 10)), (3, .ref o), (4, .int 0)]) hx hb dL_law_457 hl (by decide) rfl (fun ls hl => ?_)
  refine lv_aload_n hx hb dL_law_459 rfl (lv_at hl 4 rfl) ?_
  refine mc_i (mr_V (i := 10) (As := []) (rest := []) ⟨hx, hb, hml, hown, hts⟩ (zX6_thrown l D a' cs' 12 (by omega) _ _) (cwV 0 hts gL_law_X6_thrown rfl rfl rfl (by decide +kernel) ⟨Nat.le_of_ble_eq_true rfl, Nat.le_of_ble_eq_true rfl⟩) hm.2.1 hm.2.2.2.2.1 hw (by omega) mE_o kcX6 rfl hl.1 (Nat.le_of_ble_eq_true rfl) dL_law_460 ⟨Nat.le_of_ble_eq_true rfl, Nat.le_of_ble_eq_true rfl⟩) hw hA (fun H locs hw => ?_)
  refine w_top0 (v := 0) (by simp only [va_up_self]; show g_X6_days (xs 2) (xs 3) (xs 4) n0 (m_thr m_row0 0) 10 0 = 0; rw [gk_days]; rfl) ?_
  refine lv_iload hx hb dL_law_463 (lv_at hl 1 rfl) ?_
  refine lv_icmp_eq (tgt := 470) hx hb dL_law_465 (by decide) (fun _ => ?_) (fun c1 => absurd rfl c1)
  refine lv_iload hx hb dL_law_470 (lv_at hl 1 rfl) ?_
  refine lv_if_ne (tgt := 487) hx hb dL_law_472 (by decide) (fun c1 => absurd rfl c1) (fun _ => ?_)
  refine lv_aload_n hx hb dL_law_475 rfl (lv_at hl 5 rfl) ?_
  refine lv_iconst (v := 0) hx hb dL_law_476 (by decide) ?_
  refine va_lald hx hb hm.2.2.1 hw.1 12 0 (by rw [show (12 : Nat) = 12 + 0 from rfl, mX_x]; rfl) rfl (vp_in_nI (n := 0) (by decide) (by decide)) dL_law_477 ?_
  refine lv_iload hx hb dL_law_478 (lv_at hl 0 rfl) ?_
  refine lv_i2l hx hb dL_law_480 rfl ?_
  refine W.lcmp hx hb dL_law_481 ?_
  refine lv_if_eq (tgt := 487) hx hb dL_law_482 (by decide) (fun _ => ?_) (fun c1 => absurd ((lg_cmp_eq _ _).mpr (hu.trans (congrArg Int32.toInt64 (((q_fellX (sum09 hx0 hx9 hy0 hy9).1 (sum09 hx0 hx9 hy0 hy9).2 (z40 h3 h4).1 (z40 h3 h4).2 (by omega)).trans (q_fellM (mFr_thr fr0) (sum09 hx0 hx9 hy0 hy9).1 (sum09 hx0 hx9 hy0 hy9).2 (z40 h3 h4).1 (z40 h3 h4).2 (by omega)).symm).trans ev6.symm)))) c1)
  refine lv_goto (tgt := 1793) hx hb dL_law_487 (by decide) ?_
  refine W.widen (k := 600002) (n := 7302232) (Nat.le_of_ble_eq_true rfl) (Nat.le_of_ble_eq_true rfl) ?_
  exact l_fin C0 hw.2.2 (lv_sub hl [2, 6] rfl)
set_option maxHeartbeats 4000000 in
set_option maxRecDepth 100000 in
theorem ll_skim_1 {p : Program} {e : Env} {s : State} {m : MethodId} {below : List Frame} {meth : Method} {c : Code} {l : Launch} (hst : l.stackTraces = false) {b : Nat} {xs : Nat → Int32} (C0 : lw_At p s m meth c b 5 xs) {D : va_G} {a : Nat → Nat} {cs : Nat → ClassId} {a' : Nat → Nat} {cs' : Nat → ClassId} {o : Nat} {cJ : ClassId} {fl : Nat → Int64} (hm : lM D cs cs' cJ s) {H : Heap} {locs : List Loc} (hw : lW D a cs a' cs' o cJ fl s H locs) {ls : Array Slot} (hl : lv_has ls 9 [(0, .ref b), (1, .ref (a 0)), (2, .ref (a' 10)), (3, .ref o), (4, .int 0)]) (hp : xs 1 < 0 ∨ ¬ xs 1 < 0 ∧ ¬ xs 1 < 8) (hp2 : g_X6_isNoPond (xs 1) = 1) : W p l e room_1 s m #[Value.ref b] below meth c H locs 47 402 (lw_Z below #[Value.ref b] s) (F0 m 490 ls []) := by
  obtain ⟨hx, hb, hr, hml, hown, hts0, hX, hbl, hlocks, hgv⟩ := id C0
  have hts : ∀ w ∈ wsL_law, w.before #[Value.ref b] s = true := fun w h => hts0 w (wsL_law_in w h)
  have hown : s.vm.findClass RL = some m.cls := hown
  have hA : ∀ q, s.heap.size ≤ q → lA s q := fun _ h => h
  have hbA : ¬ lA s b := Nat.not_le.mpr hbl
  refine lv_aload_n hx hb dL_law_490 rfl (lv_at hl 1 rfl) ?_
  refine l_ld (k := 1) (v := xs 1) hx hb hX hbl hbA hw.2.2 (lv_at hl 0 rfl) (lv_at hl 4 rfl) rfl (by decide) dL_law_491 dL_law_492 dL_law_494 (by decide) dL_law_495 dL_law_496 ?_
  refine lv_aload_n hx hb dL_law_497 rfl (lv_at hl 3 rfl) ?_
  refine lh_x (As := [.ref (a 0), .int (xs 1), .ref o]) ⟨hx, hb, hml, hown, hts⟩ (zL_skim_x1 l hst D a cs f_new o cJ fl (lW_so hw) (xs 1) hp _) (vx_cwSW 3 hts gL_law_L_skim rfl rfl rfl (by decide +kernel) ⟨Nat.le_of_ble_eq_true rfl, Nat.le_of_ble_eq_true rfl⟩) hm hw rfl hl.1 dL_law_498 ⟨Nat.le_of_ble_eq_true rfl, Nat.le_of_ble_eq_true rfl⟩ (fun H locs hw => ?_)
  refine lv_istore (lv' := [(5, .int 1), (0, .ref b), (1, .ref (a 0)), (2, .ref (a' 10)), (3, .ref o), (4, .int 0)]) hx hb dL_law_501 hl (by decide) rfl (fun ls hl => ?_)
  refine lv_aload_n hx hb dL_law_503 rfl (lv_at hl 3 rfl) ?_
  refine l_ld (k := 1) (v := xs 1) hx hb hX hbl hbA hw.2.2 (lv_at hl 1 rfl) (lv_at hl 5 rfl) rfl (by decide) dL_law_504 dL_law_505 dL_law_507 (by decide) dL_law_508 dL_law_509 ?_
  refine mc_i (mr_V (i := 10) (As := [.int (xs 1)]) (rest := []) ⟨hx, hb, hml, hown, hts⟩ (zX6_skim_1 l D a' cs' 12 (by omega) m_row0 (xs 1) hp2 _) (cwV 1 hts gL_law_X6_skim rfl rfl rfl (by decide +kernel) ⟨Nat.le_of_ble_eq_true rfl, Nat.le_of_ble_eq_true rfl⟩) hm.2.1 hm.2.2.2.2.1 hw (by omega) mE_o kcX6 rfl hl.1 (Nat.le_of_ble_eq_true rfl) dL_law_510 ⟨Nat.le_of_ble_eq_true rfl, Nat.le_of_ble_eq_true rfl⟩) hw hA (fun H locs hw => ?_)
  refine lv_topi (fun v6 ev6 => ?_)
  refine lv_istore (lv' := [(6, .int v6), (5, .int 1), (0, .ref b), (1, .ref (a 0)), (2, .ref (a' 10)), (3, .ref o), (4, .int 0)]) hx hb dL_law_513 hl (by decide) rfl (fun ls hl => ?_)
  refine lv_aload_n hx hb dL_law_515 rfl (lv_at hl 4 rfl) ?_
  refine mc_i (mr_V (i := 10) (As := []) (rest := []) ⟨hx, hb, hml, hown, hts⟩ (zX6_thrown l D a' cs' 12 (by omega) _ _) (cwV 0 hts gL_law_X6_thrown rfl rfl rfl (by decide +kernel) ⟨Nat.le_of_ble_eq_true rfl, Nat.le_of_ble_eq_true rfl⟩) hm.2.1 hm.2.2.2.2.1 hw (by omega) mE_o kcX6 rfl hl.1 (Nat.le_of_ble_eq_true rfl) dL_law_516 ⟨Nat.le_of_ble_eq_true rfl, Nat.le_of_ble_eq_true rfl⟩) hw hA (fun H locs hw => ?_)
  refine w_top0 (v := 1) (rfl) ?_
  refine lv_iload hx hb dL_law_519 (lv_at hl 1 rfl) ?_
  refine lv_icmp_eq (tgt := 526) hx hb dL_law_521 (by decide) (fun _ => ?_) (fun c1 => absurd rfl c1)
  refine lv_iload hx hb dL_law_526 (lv_at hl 1 rfl) ?_
  refine lv_if_ne (tgt := 543) hx hb dL_law_528 (by decide) (fun _ => ?_) (fun c1 => absurd c1 (by decide))
  refine lv_goto (tgt := 1793) hx hb dL_law_543 (by decide) ?_
  refine W.widen (k := 600002) (n := 7302232) (Nat.le_of_ble_eq_true rfl) (Nat.le_of_ble_eq_true rfl) ?_
  exact l_fin C0 hw.2.2 (lv_sub hl [2, 6] rfl)
set_option maxHeartbeats 4000000 in
set_option maxRecDepth 100000 in
theorem ll_skim_2 {p : Program} {e : Env} {s : State} {m : MethodId} {below : List Frame} {meth : Method} {c : Code} {l : Launch} (hst : l.stackTraces = false) {b : Nat} {xs : Nat → Int32} (C0 : lw_At p s m meth c b 5 xs) {D : va_G} {a : Nat → Nat} {cs : Nat → ClassId} {a' : Nat → Nat} {cs' : Nat → ClassId} {o : Nat} {cJ : ClassId} {fl : Nat → Int64} (hm : lM D cs cs' cJ s) {H : Heap} {locs : List Loc} (hw : lW D a cs a' cs' o cJ fl s H locs) {ls : Array Slot} (hl : lv_has ls 9 [(0, .ref b), (1, .ref (a 0)), (2, .ref (a' 10)), (3, .ref o), (4, .int 0)]) (k : Nat) (hk : k < 8) (hk1 : xs 1 = nI k) : W p l e room_1 s m #[Value.ref b] below meth c H locs 47 402 (lw_Z below #[Value.ref b] s) (F0 m 490 ls []) := by
  obtain ⟨hx, hb, hr, hml, hown, hts0, hX, hbl, hlocks, hgv⟩ := id C0
  have hts : ∀ w ∈ wsL_law, w.before #[Value.ref b] s = true := fun w h => hts0 w (wsL_law_in w h)
  have hown : s.vm.findClass RL = some m.cls := hown
  have hA : ∀ q, s.heap.size ≤ q → lA s q := fun _ h => h
  have hbA : ¬ lA s b := Nat.not_le.mpr hbl
  refine lv_aload_n hx hb dL_law_490 rfl (lv_at hl 1 rfl) ?_
  refine l_ld (k := 1) (v := nI k) hx hb hX hbl hbA hw.2.2 (lv_at hl 0 rfl) (lv_at hl 4 rfl) hk1 (by decide) dL_law_491 dL_law_492 dL_law_494 (by decide) dL_law_495 dL_law_496 ?_
  refine lv_aload_n hx hb dL_law_497 rfl (lv_at hl 3 rfl) ?_
  refine lh_n (As := [.ref (a 0), .int (nI k), .ref o]) ⟨hx, hb, hml, hown, hts⟩ (zL_skim_n l hst D a cs f_new o cJ fl (lW_so hw) k hk _) (vx_cwSW 3 hts gL_law_L_skim rfl rfl rfl (by decide +kernel) ⟨Nat.le_of_ble_eq_true rfl, Nat.le_of_ble_eq_true rfl⟩) hm hw rfl hl.1 dL_law_498 ⟨Nat.le_of_ble_eq_true rfl, Nat.le_of_ble_eq_true rfl⟩ (fun u H locs hu hw => ?_)
  refine lv_istore (lv' := [(5, .int 0), (0, .ref b), (1, .ref (a 0)), (2, .ref (a' 10)), (3, .ref o), (4, .int 0)]) hx hb dL_law_501 hl (by decide) rfl (fun ls hl => ?_)
  refine lv_aload_n hx hb dL_law_503 rfl (lv_at hl 3 rfl) ?_
  refine l_ld (k := 1) (v := nI k) hx hb hX hbl hbA hw.2.2 (lv_at hl 1 rfl) (lv_at hl 5 rfl) hk1 (by decide) dL_law_504 dL_law_505 dL_law_507 (by decide) dL_law_508 dL_law_509 ?_
  refine mc_i (mr_V (i := 10) (As := [.int (nI k)]) (rest := []) ⟨hx, hb, hml, hown, hts⟩ (zX6_skim_2 l D a' cs' 12 (by omega) m_row0 k hk _) (cwV 1 hts gL_law_X6_skim rfl rfl rfl (by decide +kernel) ⟨Nat.le_of_ble_eq_true rfl, Nat.le_of_ble_eq_true rfl⟩) hm.2.1 hm.2.2.2.2.1 hw (by omega) mE_o kcX6 rfl hl.1 (Nat.le_of_ble_eq_true rfl) dL_law_510 ⟨Nat.le_of_ble_eq_true rfl, Nat.le_of_ble_eq_true rfl⟩) hw hA (fun H locs hw => ?_)
  refine lv_topi (fun v6 ev6 => ?_)
  refine lv_istore (lv' := [(6, .int v6), (5, .int 0), (0, .ref b), (1, .ref (a 0)), (2, .ref (a' 10)), (3, .ref o), (4, .int 0)]) hx hb dL_law_513 hl (by decide) rfl (fun ls hl => ?_)
  refine lv_aload_n hx hb dL_law_515 rfl (lv_at hl 4 rfl) ?_
  refine mc_i (mr_V (i := 10) (As := []) (rest := []) ⟨hx, hb, hml, hown, hts⟩ (zX6_thrown l D a' cs' 12 (by omega) _ _) (cwV 0 hts gL_law_X6_thrown rfl rfl rfl (by decide +kernel) ⟨Nat.le_of_ble_eq_true rfl, Nat.le_of_ble_eq_true rfl⟩) hm.2.1 hm.2.2.2.2.1 hw (by omega) mE_o kcX6 rfl hl.1 (Nat.le_of_ble_eq_true rfl) dL_law_516 ⟨Nat.le_of_ble_eq_true rfl, Nat.le_of_ble_eq_true rfl⟩) hw hA (fun H locs hw => ?_)
  refine w_top0 (v := 0) (by rw [va_up_self]; show (va_up _ _ _ : sS) 10 0 = 0; rw [va_up_ne _ _ (by omega)]; rfl) ?_
  refine lv_iload hx hb dL_law_519 (lv_at hl 1 rfl) ?_
  refine lv_icmp_eq (tgt := 526) hx hb dL_law_521 (by decide) (fun _ => ?_) (fun c1 => absurd rfl c1)
  refine lv_iload hx hb dL_law_526 (lv_at hl 1 rfl) ?_
  refine lv_if_ne (tgt := 543) hx hb dL_law_528 (by decide) (fun c1 => absurd rfl c1) (fun _ => ?_)
  refine lv_aload_n hx hb dL_law_531 rfl (lv_at hl 5 rfl) ?_
  refine lv_iconst (v := 0) hx hb dL_law_532 (by decide) ?_
  refine va_lald hx hb hm.2.2.1 hw.1 12 0 (by rw [show (12 : Nat) = 12 + 0 from rfl, mX_x]; rfl) rfl (vp_in_nI (n := 0) (by decide) (by decide)) dL_law_533 ?_
  refine lv_iload hx hb dL_law_534 (lv_at hl 0 rfl) ?_
  refine lv_i2l hx hb dL_law_536 rfl ?_
  refine W.lcmp hx hb dL_law_537 ?_
  refine lv_if_eq (tgt := 543) hx hb dL_law_538 (by decide) (fun _ => ?_) (fun c1 => absurd ((lg_cmp_eq _ _).mpr (hu.trans (congrArg Int32.toInt64 (((fn_k (by decide)).trans ((mFr_thr fr0).1 k hk 5 (by decide) (by decide)).symm).trans ev6.symm)))) c1)
  refine lv_goto (tgt := 1793) hx hb dL_law_543 (by decide) ?_
  refine W.widen (k := 600002) (n := 7302232) (Nat.le_of_ble_eq_true rfl) (Nat.le_of_ble_eq_true rfl) ?_
  exact l_fin C0 hw.2.2 (lv_sub hl [2, 6] rfl)
set_option maxHeartbeats 4000000 in
set_option maxRecDepth 100000 in
theorem ll_drain_1 {p : Program} {e : Env} {s : State} {m : MethodId} {below : List Frame} {meth : Method} {c : Code} {l : Launch} (hst : l.stackTraces = false) {b : Nat} {xs : Nat → Int32} (C0 : lw_At p s m meth c b 5 xs) {D : va_G} {a : Nat → Nat} {cs : Nat → ClassId} {a' : Nat → Nat} {cs' : Nat → ClassId} {o : Nat} {cJ : ClassId} {fl : Nat → Int64} (hm : lM D cs cs' cJ s) {H : Heap} {locs : List Loc} (hw : lW D a cs a' cs' o cJ fl s H locs) {ls : Array Slot} (hl : lv_has ls 9 [(0, .ref b), (1, .ref (a 0)), (2, .ref (a' 10)), (3, .ref o), (4, .int 0)]) (hp : xs 1 < 0 ∨ ¬ xs 1 < 0 ∧ ¬ xs 1 < 8) (hp2 : g_X6_isNoPond (xs 1) = 1) : W p l e room_1 s m #[Value.ref b] below meth c H locs 47 402 (lw_Z below #[Value.ref b] s) (F0 m 546 ls []) := by
  obtain ⟨hx, hb, hr, hml, hown, hts0, hX, hbl, hlocks, hgv⟩ := id C0
  have hts : ∀ w ∈ wsL_law, w.before #[Value.ref b] s = true := fun w h => hts0 w (wsL_law_in w h)
  have hown : s.vm.findClass RL = some m.cls := hown
  have hA : ∀ q, s.heap.size ≤ q → lA s q := fun _ h => h
  have hbA : ¬ lA s b := Nat.not_le.mpr hbl
  refine lv_aload_n hx hb dL_law_546 rfl (lv_at hl 1 rfl) ?_
  refine l_ld (k := 1) (v := xs 1) hx hb hX hbl hbA hw.2.2 (lv_at hl 0 rfl) (lv_at hl 4 rfl) rfl (by decide) dL_law_547 dL_law_548 dL_law_550 (by decide) dL_law_551 dL_law_552 ?_
  refine lv_aload_n hx hb dL_law_553 rfl (lv_at hl 3 rfl) ?_
  refine lh_x (As := [.ref (a 0), .int (xs 1), .ref o]) ⟨hx, hb, hml, hown, hts⟩ (zL_drain_x1 l hst D a cs f_new o cJ fl (lW_so hw) (xs 1) hp _) (vx_cwSW 3 hts gL_law_L_drain rfl rfl rfl (by decide +kernel) ⟨Nat.le_of_ble_eq_true rfl, Nat.le_of_ble_eq_true rfl⟩) hm hw rfl hl.1 dL_law_554 ⟨Nat.le_of_ble_eq_true rfl, Nat.le_of_ble_eq_true rfl⟩ (fun H locs hw => ?_)
  refine lv_istore (lv' := [(5, .int 1), (0, .ref b), (1, .ref (a 0)), (2, .ref (a' 10)), (3, .ref o), (4, .int 0)]) hx hb dL_law_557 hl (by decide) rfl (fun ls hl => ?_)
  refine lv_aload_n hx hb dL_law_559 rfl (lv_at hl 3 rfl) ?_
  refine l_ld (k := 1) (v := xs 1) hx hb hX hbl hbA hw.2.2 (lv_at hl 1 rfl) (lv_at hl 5 rfl) rfl (by decide) dL_law_560 dL_law_561 dL_law_563 (by decide) dL_law_564 dL_law_565 ?_
  refine mc_i (mr_V (i := 10) (As := [.int (xs 1)]) (rest := []) ⟨hx, hb, hml, hown, hts⟩ (zX6_drain_1 l D a' cs' 12 (by omega) m_row0 (xs 1) hp2 _) (cwV 1 hts gL_law_X6_drain rfl rfl rfl (by decide +kernel) ⟨Nat.le_of_ble_eq_true rfl, Nat.le_of_ble_eq_true rfl⟩) hm.2.1 hm.2.2.2.2.1 hw (by omega) mE_o kcX6 rfl hl.1 (Nat.le_of_ble_eq_true rfl) dL_law_566 ⟨Nat.le_of_ble_eq_true rfl, Nat.le_of_ble_eq_true rfl⟩) hw hA (fun H locs hw => ?_)
  refine lv_topi (fun v6 ev6 => ?_)
  refine lv_istore (lv' := [(6, .int v6), (5, .int 1), (0, .ref b), (1, .ref (a 0)), (2, .ref (a' 10)), (3, .ref o), (4, .int 0)]) hx hb dL_law_569 hl (by decide) rfl (fun ls hl => ?_)
  refine lv_aload_n hx hb dL_law_571 rfl (lv_at hl 4 rfl) ?_
  refine mc_i (mr_V (i := 10) (As := []) (rest := []) ⟨hx, hb, hml, hown, hts⟩ (zX6_thrown l D a' cs' 12 (by omega) _ _) (cwV 0 hts gL_law_X6_thrown rfl rfl rfl (by decide +kernel) ⟨Nat.le_of_ble_eq_true rfl, Nat.le_of_ble_eq_true rfl⟩) hm.2.1 hm.2.2.2.2.1 hw (by omega) mE_o kcX6 rfl hl.1 (Nat.le_of_ble_eq_true rfl) dL_law_572 ⟨Nat.le_of_ble_eq_true rfl, Nat.le_of_ble_eq_true rfl⟩) hw hA (fun H locs hw => ?_)
  refine w_top0 (v := 1) (rfl) ?_
  refine lv_iload hx hb dL_law_575 (lv_at hl 1 rfl) ?_
  refine lv_icmp_eq (tgt := 582) hx hb dL_law_577 (by decide) (fun _ => ?_) (fun c1 => absurd rfl c1)
  refine lv_iload hx hb dL_law_582 (lv_at hl 1 rfl) ?_
  refine lv_if_ne (tgt := 599) hx hb dL_law_584 (by decide) (fun _ => ?_) (fun c1 => absurd c1 (by decide))
  refine lv_goto (tgt := 1793) hx hb dL_law_599 (by decide) ?_
  refine W.widen (k := 600002) (n := 7302232) (Nat.le_of_ble_eq_true rfl) (Nat.le_of_ble_eq_true rfl) ?_
  exact l_fin C0 hw.2.2 (lv_sub hl [2, 6] rfl)
set_option maxHeartbeats 4000000 in
set_option maxRecDepth 100000 in
theorem ll_drain_2 {p : Program} {e : Env} {s : State} {m : MethodId} {below : List Frame} {meth : Method} {c : Code} {l : Launch} (hst : l.stackTraces = false) {b : Nat} {xs : Nat → Int32} (C0 : lw_At p s m meth c b 5 xs) {D : va_G} {a : Nat → Nat} {cs : Nat → ClassId} {a' : Nat → Nat} {cs' : Nat → ClassId} {o : Nat} {cJ : ClassId} {fl : Nat → Int64} (hm : lM D cs cs' cJ s) {H : Heap} {locs : List Loc} (hw : lW D a cs a' cs' o cJ fl s H locs) {ls : Array Slot} (hl : lv_has ls 9 [(0, .ref b), (1, .ref (a 0)), (2, .ref (a' 10)), (3, .ref o), (4, .int 0)]) (k : Nat) (hk : k < 8) (hk1 : xs 1 = nI k) : W p l e room_1 s m #[Value.ref b] below meth c H locs 47 402 (lw_Z below #[Value.ref b] s) (F0 m 546 ls []) := by
  obtain ⟨hx, hb, hr, hml, hown, hts0, hX, hbl, hlocks, hgv⟩ := id C0
  have hts : ∀ w ∈ wsL_law, w.before #[Value.ref b] s = true := fun w h => hts0 w (wsL_law_in w h)
  have hown : s.vm.findClass RL = some m.cls := hown
  have hA : ∀ q, s.heap.size ≤ q → lA s q := fun _ h => h
  have hbA : ¬ lA s b := Nat.not_le.mpr hbl
  refine lv_aload_n hx hb dL_law_546 rfl (lv_at hl 1 rfl) ?_
  refine l_ld (k := 1) (v := nI k) hx hb hX hbl hbA hw.2.2 (lv_at hl 0 rfl) (lv_at hl 4 rfl) hk1 (by decide) dL_law_547 dL_law_548 dL_law_550 (by decide) dL_law_551 dL_law_552 ?_
  refine lv_aload_n hx hb dL_law_553 rfl (lv_at hl 3 rfl) ?_
  refine lh_x (As := [.ref (a 0), .int (nI k), .ref o]) ⟨hx, hb, hml, hown, hts⟩ (zL_drain_x2 l hst D a cs f_new o cJ fl (lW_so hw) k hk (by rw [fn_k (by decide)]; decide) _) (vx_cwSW 3 hts gL_law_L_drain rfl rfl rfl (by decide +kernel) ⟨Nat.le_of_ble_eq_true rfl, Nat.le_of_ble_eq_true rfl⟩) hm hw rfl hl.1 dL_law_554 ⟨Nat.le_of_ble_eq_true rfl, Nat.le_of_ble_eq_true rfl⟩ (fun H locs hw => ?_)
  refine lv_istore (lv' := [(5, .int 2), (0, .ref b), (1, .ref (a 0)), (2, .ref (a' 10)), (3, .ref o), (4, .int 0)]) hx hb dL_law_557 hl (by decide) rfl (fun ls hl => ?_)
  refine lv_aload_n hx hb dL_law_559 rfl (lv_at hl 3 rfl) ?_
  refine l_ld (k := 1) (v := nI k) hx hb hX hbl hbA hw.2.2 (lv_at hl 1 rfl) (lv_at hl 5 rfl) hk1 (by decide) dL_law_560 dL_law_561 dL_law_563 (by decide) dL_law_564 dL_law_565 ?_
  refine mc_i (mr_V (i := 10) (As := [.int (nI k)]) (rest := []) ⟨hx, hb, hml, hown, hts⟩ (zX6_drain_2 l D a' cs' 12 (by omega) m_row0 k hk (fr0.1 k hk 1 (by decide) (by decide)) _) (cwV 1 hts gL_law_X6_drain rfl rfl rfl (by decide +kernel) ⟨Nat.le_of_ble_eq_true rfl, Nat.le_of_ble_eq_true rfl⟩) hm.2.1 hm.2.2.2.2.1 hw (by omega) mE_o kcX6 rfl hl.1 (Nat.le_of_ble_eq_true rfl) dL_law_566 ⟨Nat.le_of_ble_eq_true rfl, Nat.le_of_ble_eq_true rfl⟩) hw hA (fun H locs hw => ?_)
  refine lv_topi (fun v6 ev6 => ?_)
  refine lv_istore (lv' := [(6, .int v6), (5, .int 2), (0, .ref b), (1, .ref (a 0)), (2, .ref (a' 10)), (3, .ref o), (4, .int 0)]) hx hb dL_law_569 hl (by decide) rfl (fun ls hl => ?_)
  refine lv_aload_n hx hb dL_law_571 rfl (lv_at hl 4 rfl) ?_
  refine mc_i (mr_V (i := 10) (As := []) (rest := []) ⟨hx, hb, hml, hown, hts⟩ (zX6_thrown l D a' cs' 12 (by omega) _ _) (cwV 0 hts gL_law_X6_thrown rfl rfl rfl (by decide +kernel) ⟨Nat.le_of_ble_eq_true rfl, Nat.le_of_ble_eq_true rfl⟩) hm.2.1 hm.2.2.2.2.1 hw (by omega) mE_o kcX6 rfl hl.1 (Nat.le_of_ble_eq_true rfl) dL_law_572 ⟨Nat.le_of_ble_eq_true rfl, Nat.le_of_ble_eq_true rfl⟩) hw hA (fun H locs hw => ?_)
  refine w_top0 (v := 2) (rfl) ?_
  refine lv_iload hx hb dL_law_575 (lv_at hl 1 rfl) ?_
  refine lv_icmp_eq (tgt := 582) hx hb dL_law_577 (by decide) (fun _ => ?_) (fun c1 => absurd rfl c1)
  refine lv_iload hx hb dL_law_582 (lv_at hl 1 rfl) ?_
  refine lv_if_ne (tgt := 599) hx hb dL_law_584 (by decide) (fun _ => ?_) (fun c1 => absurd c1 (by decide))
  refine lv_goto (tgt := 1793) hx hb dL_law_599 (by decide) ?_
  refine W.widen (k := 600002) (n := 7302232) (Nat.le_of_ble_eq_true rfl) (Nat.le_of_ble_eq_true rfl) ?_
  exact l_fin C0 hw.2.2 (lv_sub hl [2, 6] rfl)
set_option maxHeartbeats 4000000 in
set_option maxRecDepth 100000 in
theorem ll_pump_1 {p : Program} {e : Env} {s : State} {m : MethodId} {below : List Frame} {meth : Method} {c : Code} {l : Launch} (hst : l.stackTraces = false) {b : Nat} {xs : Nat → Int32} (C0 : lw_At p s m meth c b 5 xs) {D : va_G} {a : Nat → Nat} {cs : Nat → ClassId} {a' : Nat → Nat} {cs' : Nat → ClassId} {o : Nat} {cJ : ClassId} {fl : Nat → Int64} (hm : lM D cs cs' cJ s) {H : Heap} {locs : List Loc} (hw : lW D a cs a' cs' o cJ fl s H locs) {ls : Array Slot} (hl : lv_has ls 9 [(0, .ref b), (1, .ref (a 0)), (2, .ref (a' 10)), (3, .ref o), (4, .int 0)]) (hp : xs 1 < 0 ∨ ¬ xs 1 < 0 ∧ ¬ xs 1 < 8) (hp2 : g_X6_isNoPond (xs 1) = 1) : W p l e room_1 s m #[Value.ref b] below meth c H locs 47 402 (lw_Z below #[Value.ref b] s) (F0 m 602 ls []) := by
  obtain ⟨hx, hb, hr, hml, hown, hts0, hX, hbl, hlocks, hgv⟩ := id C0
  have hts : ∀ w ∈ wsL_law, w.before #[Value.ref b] s = true := fun w h => hts0 w (wsL_law_in w h)
  have hown : s.vm.findClass RL = some m.cls := hown
  have hA : ∀ q, s.heap.size ≤ q → lA s q := fun _ h => h
  have hbA : ¬ lA s b := Nat.not_le.mpr hbl
  refine lv_aload_n hx hb dL_law_602 rfl (lv_at hl 1 rfl) ?_
  refine l_ld (k := 1) (v := xs 1) hx hb hX hbl hbA hw.2.2 (lv_at hl 0 rfl) (lv_at hl 4 rfl) rfl (by decide) dL_law_603 dL_law_604 dL_law_606 (by decide) dL_law_607 dL_law_608 ?_
  refine l_ld (k := 2) (v := xs 2) hx hb hX hbl hbA hw.2.2 (lv_at hl 0 rfl) (lv_at hl 4 rfl) rfl (by decide) dL_law_609 dL_law_610 dL_law_612 (by decide) dL_law_613 dL_law_614 ?_
  refine l_ld (k := 3) (v := xs 3) hx hb hX hbl hbA hw.2.2 (lv_at hl 0 rfl) (lv_at hl 4 rfl) rfl (by decide) dL_law_615 dL_law_616 dL_law_618 (by decide) dL_law_619 dL_law_620 ?_
  refine lv_aload_n hx hb dL_law_621 rfl (lv_at hl 3 rfl) ?_
  refine lh_x (As := [.ref (a 0), .int (xs 1), .int (xs 2), .int (xs 3), .ref o]) ⟨hx, hb, hml, hown, hts⟩ (zL_pump_x1 l hst D a cs f_new o cJ fl (lW_so hw) (xs 1) hp (xs 2) (xs 3) _) (vx_cwSW 5 hts gL_law_L_pump rfl rfl rfl (by decide +kernel) ⟨Nat.le_of_ble_eq_true rfl, Nat.le_of_ble_eq_true rfl⟩) hm hw rfl hl.1 dL_law_622 ⟨Nat.le_of_ble_eq_true rfl, Nat.le_of_ble_eq_true rfl⟩ (fun H locs hw => ?_)
  refine lv_istore (lv' := [(5, .int 1), (0, .ref b), (1, .ref (a 0)), (2, .ref (a' 10)), (3, .ref o), (4, .int 0)]) hx hb dL_law_625 hl (by decide) rfl (fun ls hl => ?_)
  refine lv_aload_n hx hb dL_law_627 rfl (lv_at hl 3 rfl) ?_
  refine l_ld (k := 1) (v := xs 1) hx hb hX hbl hbA hw.2.2 (lv_at hl 1 rfl) (lv_at hl 5 rfl) rfl (by decide) dL_law_628 dL_law_629 dL_law_631 (by decide) dL_law_632 dL_law_633 ?_
  refine l_ld (k := 2) (v := xs 2) hx hb hX hbl hbA hw.2.2 (lv_at hl 1 rfl) (lv_at hl 5 rfl) rfl (by decide) dL_law_634 dL_law_635 dL_law_637 (by decide) dL_law_638 dL_law_639 ?_
  refine l_ld (k := 3) (v := xs 3) hx hb hX hbl hbA hw.2.2 (lv_at hl 1 rfl) (lv_at hl 5 rfl) rfl (by decide) dL_law_640 dL_law_641 dL_law_643 (by decide) dL_law_644 dL_law_645 ?_
  refine mc_i (mr_V (i := 10) (As := [.int (xs 1), .int (xs 2), .int (xs 3)]) (rest := []) ⟨hx, hb, hml, hown, hts⟩ (zX6_pump_1 l D a' cs' 12 (by omega) m_row0 (xs 1) (xs 2) (xs 3) hp2 _) (cwV 3 hts gL_law_X6_pump rfl rfl rfl (by decide +kernel) ⟨Nat.le_of_ble_eq_true rfl, Nat.le_of_ble_eq_true rfl⟩) hm.2.1 hm.2.2.2.2.1 hw (by omega) mE_o kcX6 rfl hl.1 (Nat.le_of_ble_eq_true rfl) dL_law_646 ⟨Nat.le_of_ble_eq_true rfl, Nat.le_of_ble_eq_true rfl⟩) hw hA (fun H locs hw => ?_)
  refine lv_topi (fun v6 ev6 => ?_)
  refine lv_istore (lv' := [(6, .int v6), (5, .int 1), (0, .ref b), (1, .ref (a 0)), (2, .ref (a' 10)), (3, .ref o), (4, .int 0)]) hx hb dL_law_649 hl (by decide) rfl (fun ls hl => ?_)
  refine lv_aload_n hx hb dL_law_651 rfl (lv_at hl 4 rfl) ?_
  refine mc_i (mr_V (i := 10) (As := []) (rest := []) ⟨hx, hb, hml, hown, hts⟩ (zX6_thrown l D a' cs' 12 (by omega) _ _) (cwV 0 hts gL_law_X6_thrown rfl rfl rfl (by decide +kernel) ⟨Nat.le_of_ble_eq_true rfl, Nat.le_of_ble_eq_true rfl⟩) hm.2.1 hm.2.2.2.2.1 hw (by omega) mE_o kcX6 rfl hl.1 (Nat.le_of_ble_eq_true rfl) dL_law_652 ⟨Nat.le_of_ble_eq_true rfl, Nat.le_of_ble_eq_true rfl⟩) hw hA (fun H locs hw => ?_)
  refine w_top0 (v := 1) (rfl) ?_
  refine lv_iload hx hb dL_law_655 (lv_at hl 1 rfl) ?_
  refine lv_icmp_eq (tgt := 662) hx hb dL_law_657 (by decide) (fun _ => ?_) (fun c1 => absurd rfl c1)
  refine lv_iload hx hb dL_law_662 (lv_at hl 1 rfl) ?_
  refine lv_if_ne (tgt := 679) hx hb dL_law_664 (by decide) (fun _ => ?_) (fun c1 => absurd c1 (by decide))
  refine lv_goto (tgt := 1793) hx hb dL_law_679 (by decide) ?_
  refine W.widen (k := 600002) (n := 7302232) (Nat.le_of_ble_eq_true rfl) (Nat.le_of_ble_eq_true rfl) ?_
  exact l_fin C0 hw.2.2 (lv_sub hl [2, 6] rfl)
set_option maxHeartbeats 4000000 in
set_option maxRecDepth 100000 in
theorem ll_pump_2 {p : Program} {e : Env} {s : State} {m : MethodId} {below : List Frame} {meth : Method} {c : Code} {l : Launch} (hst : l.stackTraces = false) {b : Nat} {xs : Nat → Int32} (C0 : lw_At p s m meth c b 5 xs) {D : va_G} {a : Nat → Nat} {cs : Nat → ClassId} {a' : Nat → Nat} {cs' : Nat → ClassId} {o : Nat} {cJ : ClassId} {fl : Nat → Int64} (hm : lM D cs cs' cJ s) {H : Heap} {locs : List Loc} (hw : lW D a cs a' cs' o cJ fl s H locs) {ls : Array Slot} (hl : lv_has ls 9 [(0, .ref b), (1, .ref (a 0)), (2, .ref (a' 10)), (3, .ref o), (4, .int 0)]) (k : Nat) (hk : k < 8) (hk1 : xs 1 = nI k) (hp : xs 2 < 0 ∨ ¬ xs 2 < 0 ∧ ¬ xs 2 < 8) (hp2 : g_X6_isNoPond (xs 2) = 1) : W p l e room_1 s m #[Value.ref b] below meth c H locs 47 402 (lw_Z below #[Value.ref b] s) (F0 m 602 ls []) := by
  obtain ⟨hx, hb, hr, hml, hown, hts0, hX, hbl, hlocks, hgv⟩ := id C0
  have hts : ∀ w ∈ wsL_law, w.before #[Value.ref b] s = true := fun w h => hts0 w (wsL_law_in w h)
  have hown : s.vm.findClass RL = some m.cls := hown
  have hA : ∀ q, s.heap.size ≤ q → lA s q := fun _ h => h
  have hbA : ¬ lA s b := Nat.not_le.mpr hbl
  refine lv_aload_n hx hb dL_law_602 rfl (lv_at hl 1 rfl) ?_
  refine l_ld (k := 1) (v := nI k) hx hb hX hbl hbA hw.2.2 (lv_at hl 0 rfl) (lv_at hl 4 rfl) hk1 (by decide) dL_law_603 dL_law_604 dL_law_606 (by decide) dL_law_607 dL_law_608 ?_
  refine l_ld (k := 2) (v := xs 2) hx hb hX hbl hbA hw.2.2 (lv_at hl 0 rfl) (lv_at hl 4 rfl) rfl (by decide) dL_law_609 dL_law_610 dL_law_612 (by decide) dL_law_613 dL_law_614 ?_
  refine l_ld (k := 3) (v := xs 3) hx hb hX hbl hbA hw.2.2 (lv_at hl 0 rfl) (lv_at hl 4 rfl) rfl (by decide) dL_law_615 dL_law_616 dL_law_618 (by decide) dL_law_619 dL_law_620 ?_
  refine lv_aload_n hx hb dL_law_621 rfl (lv_at hl 3 rfl) ?_
  refine lh_x (As := [.ref (a 0), .int (nI k), .int (xs 2), .int (xs 3), .ref o]) ⟨hx, hb, hml, hown, hts⟩ (zL_pump_x2 l hst D a cs f_new o cJ fl (lW_so hw) k hk (xs 2) hp (xs 3) _) (vx_cwSW 5 hts gL_law_L_pump rfl rfl rfl (by decide +kernel) ⟨Nat.le_of_ble_eq_true rfl, Nat.le_of_ble_eq_true rfl⟩) hm hw rfl hl.1 dL_law_622 ⟨Nat.le_of_ble_eq_true rfl, Nat.le_of_ble_eq_true rfl⟩ (fun H locs hw => ?_)
  refine lv_istore (lv' := [(5, .int 1), (0, .ref b), (1, .ref (a 0)), (2, .ref (a' 10)), (3, .ref o), (4, .int 0)]) hx hb dL_law_625 hl (by decide) rfl (fun ls hl => ?_)
  refine lv_aload_n hx hb dL_law_627 rfl (lv_at hl 3 rfl) ?_
  refine l_ld (k := 1) (v := nI k) hx hb hX hbl hbA hw.2.2 (lv_at hl 1 rfl) (lv_at hl 5 rfl) hk1 (by decide) dL_law_628 dL_law_629 dL_law_631 (by decide) dL_law_632 dL_law_633 ?_
  refine l_ld (k := 2) (v := xs 2) hx hb hX hbl hbA hw.2.2 (lv_at hl 1 rfl) (lv_at hl 5 rfl) rfl (by decide) dL_law_634 dL_law_635 dL_law_637 (by decide) dL_law_638 dL_law_639 ?_
  refine l_ld (k := 3) (v := xs 3) hx hb hX hbl hbA hw.2.2 (lv_at hl 1 rfl) (lv_at hl 5 rfl) rfl (by decide) dL_law_640 dL_law_641 dL_law_643 (by decide) dL_law_644 dL_law_645 ?_
  refine mc_i (mr_V (i := 10) (As := [.int (nI k), .int (xs 2), .int (xs 3)]) (rest := []) ⟨hx, hb, hml, hown, hts⟩ (zX6_pump_2 l D a' cs' 12 (by omega) m_row0 k hk (xs 2) (xs 3) hp2 _) (cwV 3 hts gL_law_X6_pump rfl rfl rfl (by decide +kernel) ⟨Nat.le_of_ble_eq_true rfl, Nat.le_of_ble_eq_true rfl⟩) hm.2.1 hm.2.2.2.2.1 hw (by omega) mE_o kcX6 rfl hl.1 (Nat.le_of_ble_eq_true rfl) dL_law_646 ⟨Nat.le_of_ble_eq_true rfl, Nat.le_of_ble_eq_true rfl⟩) hw hA (fun H locs hw => ?_)
  refine lv_topi (fun v6 ev6 => ?_)
  refine lv_istore (lv' := [(6, .int v6), (5, .int 1), (0, .ref b), (1, .ref (a 0)), (2, .ref (a' 10)), (3, .ref o), (4, .int 0)]) hx hb dL_law_649 hl (by decide) rfl (fun ls hl => ?_)
  refine lv_aload_n hx hb dL_law_651 rfl (lv_at hl 4 rfl) ?_
  refine mc_i (mr_V (i := 10) (As := []) (rest := []) ⟨hx, hb, hml, hown, hts⟩ (zX6_thrown l D a' cs' 12 (by omega) _ _) (cwV 0 hts gL_law_X6_thrown rfl rfl rfl (by decide +kernel) ⟨Nat.le_of_ble_eq_true rfl, Nat.le_of_ble_eq_true rfl⟩) hm.2.1 hm.2.2.2.2.1 hw (by omega) mE_o kcX6 rfl hl.1 (Nat.le_of_ble_eq_true rfl) dL_law_652 ⟨Nat.le_of_ble_eq_true rfl, Nat.le_of_ble_eq_true rfl⟩) hw hA (fun H locs hw => ?_)
  refine w_top0 (v := 1) (rfl) ?_
  refine lv_iload hx hb dL_law_655 (lv_at hl 1 rfl) ?_
  refine lv_icmp_eq (tgt := 662) hx hb dL_law_657 (by decide) (fun _ => ?_) (fun c1 => absurd rfl c1)
  refine lv_iload hx hb dL_law_662 (lv_at hl 1 rfl) ?_
  refine lv_if_ne (tgt := 679) hx hb dL_law_664 (by decide) (fun _ => ?_) (fun c1 => absurd c1 (by decide))
  refine lv_goto (tgt := 1793) hx hb dL_law_679 (by decide) ?_
  refine W.widen (k := 600002) (n := 7302232) (Nat.le_of_ble_eq_true rfl) (Nat.le_of_ble_eq_true rfl) ?_
  exact l_fin C0 hw.2.2 (lv_sub hl [2, 6] rfl)
set_option maxHeartbeats 4000000 in
set_option maxRecDepth 100000 in
theorem ll_pump_3 {p : Program} {e : Env} {s : State} {m : MethodId} {below : List Frame} {meth : Method} {c : Code} {l : Launch} (hst : l.stackTraces = false) {b : Nat} {xs : Nat → Int32} (C0 : lw_At p s m meth c b 5 xs) {D : va_G} {a : Nat → Nat} {cs : Nat → ClassId} {a' : Nat → Nat} {cs' : Nat → ClassId} {o : Nat} {cJ : ClassId} {fl : Nat → Int64} (hm : lM D cs cs' cJ s) {H : Heap} {locs : List Loc} (hw : lW D a cs a' cs' o cJ fl s H locs) {ls : Array Slot} (hl : lv_has ls 9 [(0, .ref b), (1, .ref (a 0)), (2, .ref (a' 10)), (3, .ref o), (4, .int 0)]) (k : Nat) (hk : k < 8) (hk1 : xs 1 = nI k) (j : Nat) (hj : j < 8) (hk2 : xs 2 = nI j) (he : nI k = nI j) : W p l e room_1 s m #[Value.ref b] below meth c H locs 47 402 (lw_Z below #[Value.ref b] s) (F0 m 602 ls []) := by
  obtain ⟨hx, hb, hr, hml, hown, hts0, hX, hbl, hlocks, hgv⟩ := id C0
  have hts : ∀ w ∈ wsL_law, w.before #[Value.ref b] s = true := fun w h => hts0 w (wsL_law_in w h)
  have hown : s.vm.findClass RL = some m.cls := hown
  have hA : ∀ q, s.heap.size ≤ q → lA s q := fun _ h => h
  have hbA : ¬ lA s b := Nat.not_le.mpr hbl
  refine lv_aload_n hx hb dL_law_602 rfl (lv_at hl 1 rfl) ?_
  refine l_ld (k := 1) (v := nI k) hx hb hX hbl hbA hw.2.2 (lv_at hl 0 rfl) (lv_at hl 4 rfl) hk1 (by decide) dL_law_603 dL_law_604 dL_law_606 (by decide) dL_law_607 dL_law_608 ?_
  refine l_ld (k := 2) (v := nI j) hx hb hX hbl hbA hw.2.2 (lv_at hl 0 rfl) (lv_at hl 4 rfl) hk2 (by decide) dL_law_609 dL_law_610 dL_law_612 (by decide) dL_law_613 dL_law_614 ?_
  refine l_ld (k := 3) (v := xs 3) hx hb hX hbl hbA hw.2.2 (lv_at hl 0 rfl) (lv_at hl 4 rfl) rfl (by decide) dL_law_615 dL_law_616 dL_law_618 (by decide) dL_law_619 dL_law_620 ?_
  refine lv_aload_n hx hb dL_law_621 rfl (lv_at hl 3 rfl) ?_
  refine lh_x (As := [.ref (a 0), .int (nI k), .int (nI j), .int (xs 3), .ref o]) ⟨hx, hb, hml, hown, hts⟩ (zL_pump_x3 l hst D a cs f_new o cJ fl (lW_so hw) k j hk hj (xs 3) he _) (vx_cwSW 5 hts gL_law_L_pump rfl rfl rfl (by decide +kernel) ⟨Nat.le_of_ble_eq_true rfl, Nat.le_of_ble_eq_true rfl⟩) hm hw rfl hl.1 dL_law_622 ⟨Nat.le_of_ble_eq_true rfl, Nat.le_of_ble_eq_true rfl⟩ (fun H locs hw => ?_)
  refine lv_istore (lv' := [(5, .int 2), (0, .ref b), (1, .ref (a 0)), (2, .ref (a' 10)), (3, .ref o), (4, .int 0)]) hx hb dL_law_625 hl (by decide) rfl (fun ls hl => ?_)
  refine lv_aload_n hx hb dL_law_627 rfl (lv_at hl 3 rfl) ?_
  refine l_ld (k := 1) (v := nI k) hx hb hX hbl hbA hw.2.2 (lv_at hl 1 rfl) (lv_at hl 5 rfl) hk1 (by decide) dL_law_628 dL_law_629 dL_law_631 (by decide) dL_law_632 dL_law_633 ?_
  refine l_ld (k := 2) (v := nI j) hx hb hX hbl hbA hw.2.2 (lv_at hl 1 rfl) (lv_at hl 5 rfl) hk2 (by decide) dL_law_634 dL_law_635 dL_law_637 (by decide) dL_law_638 dL_law_639 ?_
  refine l_ld (k := 3) (v := xs 3) hx hb hX hbl hbA hw.2.2 (lv_at hl 1 rfl) (lv_at hl 5 rfl) rfl (by decide) dL_law_640 dL_law_641 dL_law_643 (by decide) dL_law_644 dL_law_645 ?_
  refine mc_i (mr_V (i := 10) (As := [.int (nI k), .int (nI j), .int (xs 3)]) (rest := []) ⟨hx, hb, hml, hown, hts⟩ (zX6_pump_3 l D a' cs' 12 (by omega) m_row0 k j hk hj (xs 3) he _) (cwV 3 hts gL_law_X6_pump rfl rfl rfl (by decide +kernel) ⟨Nat.le_of_ble_eq_true rfl, Nat.le_of_ble_eq_true rfl⟩) hm.2.1 hm.2.2.2.2.1 hw (by omega) mE_o kcX6 rfl hl.1 (Nat.le_of_ble_eq_true rfl) dL_law_646 ⟨Nat.le_of_ble_eq_true rfl, Nat.le_of_ble_eq_true rfl⟩) hw hA (fun H locs hw => ?_)
  refine lv_topi (fun v6 ev6 => ?_)
  refine lv_istore (lv' := [(6, .int v6), (5, .int 2), (0, .ref b), (1, .ref (a 0)), (2, .ref (a' 10)), (3, .ref o), (4, .int 0)]) hx hb dL_law_649 hl (by decide) rfl (fun ls hl => ?_)
  refine lv_aload_n hx hb dL_law_651 rfl (lv_at hl 4 rfl) ?_
  refine mc_i (mr_V (i := 10) (As := []) (rest := []) ⟨hx, hb, hml, hown, hts⟩ (zX6_thrown l D a' cs' 12 (by omega) _ _) (cwV 0 hts gL_law_X6_thrown rfl rfl rfl (by decide +kernel) ⟨Nat.le_of_ble_eq_true rfl, Nat.le_of_ble_eq_true rfl⟩) hm.2.1 hm.2.2.2.2.1 hw (by omega) mE_o kcX6 rfl hl.1 (Nat.le_of_ble_eq_true rfl) dL_law_652 ⟨Nat.le_of_ble_eq_true rfl, Nat.le_of_ble_eq_true rfl⟩) hw hA (fun H locs hw => ?_)
  refine w_top0 (v := 2) (rfl) ?_
  refine lv_iload hx hb dL_law_655 (lv_at hl 1 rfl) ?_
  refine lv_icmp_eq (tgt := 662) hx hb dL_law_657 (by decide) (fun _ => ?_) (fun c1 => absurd rfl c1)
  refine lv_iload hx hb dL_law_662 (lv_at hl 1 rfl) ?_
  refine lv_if_ne (tgt := 679) hx hb dL_law_664 (by decide) (fun _ => ?_) (fun c1 => absurd c1 (by decide))
  refine lv_goto (tgt := 1793) hx hb dL_law_679 (by decide) ?_
  refine W.widen (k := 600002) (n := 7302232) (Nat.le_of_ble_eq_true rfl) (Nat.le_of_ble_eq_true rfl) ?_
  exact l_fin C0 hw.2.2 (lv_sub hl [2, 6] rfl)
set_option maxHeartbeats 4000000 in
set_option maxRecDepth 100000 in
theorem ll_pump_4 {p : Program} {e : Env} {s : State} {m : MethodId} {below : List Frame} {meth : Method} {c : Code} {l : Launch} (hst : l.stackTraces = false) {b : Nat} {xs : Nat → Int32} (C0 : lw_At p s m meth c b 5 xs) {D : va_G} {a : Nat → Nat} {cs : Nat → ClassId} {a' : Nat → Nat} {cs' : Nat → ClassId} {o : Nat} {cJ : ClassId} {fl : Nat → Int64} (hm : lM D cs cs' cJ s) {H : Heap} {locs : List Loc} (hw : lW D a cs a' cs' o cJ fl s H locs) {ls : Array Slot} (hl : lv_has ls 9 [(0, .ref b), (1, .ref (a 0)), (2, .ref (a' 10)), (3, .ref o), (4, .int 0)]) (k : Nat) (hk : k < 8) (hk1 : xs 1 = nI k) (j : Nat) (hj : j < 8) (hk2 : xs 2 = nI j) (he : ¬ nI k = nI j) (h2 : ¬ 1 ≤ xs 3) (g2 : xs 3 < 1) : W p l e room_1 s m #[Value.ref b] below meth c H locs 47 402 (lw_Z below #[Value.ref b] s) (F0 m 602 ls []) := by
  obtain ⟨hx, hb, hr, hml, hown, hts0, hX, hbl, hlocks, hgv⟩ := id C0
  have hts : ∀ w ∈ wsL_law, w.before #[Value.ref b] s = true := fun w h => hts0 w (wsL_law_in w h)
  have hown : s.vm.findClass RL = some m.cls := hown
  have hA : ∀ q, s.heap.size ≤ q → lA s q := fun _ h => h
  have hbA : ¬ lA s b := Nat.not_le.mpr hbl
  refine lv_aload_n hx hb dL_law_602 rfl (lv_at hl 1 rfl) ?_
  refine l_ld (k := 1) (v := nI k) hx hb hX hbl hbA hw.2.2 (lv_at hl 0 rfl) (lv_at hl 4 rfl) hk1 (by decide) dL_law_603 dL_law_604 dL_law_606 (by decide) dL_law_607 dL_law_608 ?_
  refine l_ld (k := 2) (v := nI j) hx hb hX hbl hbA hw.2.2 (lv_at hl 0 rfl) (lv_at hl 4 rfl) hk2 (by decide) dL_law_609 dL_law_610 dL_law_612 (by decide) dL_law_613 dL_law_614 ?_
  refine l_ld (k := 3) (v := xs 3) hx hb hX hbl hbA hw.2.2 (lv_at hl 0 rfl) (lv_at hl 4 rfl) rfl (by decide) dL_law_615 dL_law_616 dL_law_618 (by decide) dL_law_619 dL_law_620 ?_
  refine lv_aload_n hx hb dL_law_621 rfl (lv_at hl 3 rfl) ?_
  refine lh_x (As := [.ref (a 0), .int (nI k), .int (nI j), .int (xs 3), .ref o]) ⟨hx, hb, hml, hown, hts⟩ (zL_pump_x4 l hst D a cs f_new o cJ fl (lW_so hw) k j hk hj (xs 3) he h2 _) (vx_cwSW 5 hts gL_law_L_pump rfl rfl rfl (by decide +kernel) ⟨Nat.le_of_ble_eq_true rfl, Nat.le_of_ble_eq_true rfl⟩) hm hw rfl hl.1 dL_law_622 ⟨Nat.le_of_ble_eq_true rfl, Nat.le_of_ble_eq_true rfl⟩ (fun H locs hw => ?_)
  refine lv_istore (lv' := [(5, .int 2), (0, .ref b), (1, .ref (a 0)), (2, .ref (a' 10)), (3, .ref o), (4, .int 0)]) hx hb dL_law_625 hl (by decide) rfl (fun ls hl => ?_)
  refine lv_aload_n hx hb dL_law_627 rfl (lv_at hl 3 rfl) ?_
  refine l_ld (k := 1) (v := nI k) hx hb hX hbl hbA hw.2.2 (lv_at hl 1 rfl) (lv_at hl 5 rfl) hk1 (by decide) dL_law_628 dL_law_629 dL_law_631 (by decide) dL_law_632 dL_law_633 ?_
  refine l_ld (k := 2) (v := nI j) hx hb hX hbl hbA hw.2.2 (lv_at hl 1 rfl) (lv_at hl 5 rfl) hk2 (by decide) dL_law_634 dL_law_635 dL_law_637 (by decide) dL_law_638 dL_law_639 ?_
  refine l_ld (k := 3) (v := xs 3) hx hb hX hbl hbA hw.2.2 (lv_at hl 1 rfl) (lv_at hl 5 rfl) rfl (by decide) dL_law_640 dL_law_641 dL_law_643 (by decide) dL_law_644 dL_law_645 ?_
  refine mc_i (mr_V (i := 10) (As := [.int (nI k), .int (nI j), .int (xs 3)]) (rest := []) ⟨hx, hb, hml, hown, hts⟩ (zX6_pump_4 l D a' cs' 12 (by omega) m_row0 k j hk hj (xs 3) he g2 _) (cwV 3 hts gL_law_X6_pump rfl rfl rfl (by decide +kernel) ⟨Nat.le_of_ble_eq_true rfl, Nat.le_of_ble_eq_true rfl⟩) hm.2.1 hm.2.2.2.2.1 hw (by omega) mE_o kcX6 rfl hl.1 (Nat.le_of_ble_eq_true rfl) dL_law_646 ⟨Nat.le_of_ble_eq_true rfl, Nat.le_of_ble_eq_true rfl⟩) hw hA (fun H locs hw => ?_)
  refine lv_topi (fun v6 ev6 => ?_)
  refine lv_istore (lv' := [(6, .int v6), (5, .int 2), (0, .ref b), (1, .ref (a 0)), (2, .ref (a' 10)), (3, .ref o), (4, .int 0)]) hx hb dL_law_649 hl (by decide) rfl (fun ls hl => ?_)
  refine lv_aload_n hx hb dL_law_651 rfl (lv_at hl 4 rfl) ?_
  refine mc_i (mr_V (i := 10) (As := []) (rest := []) ⟨hx, hb, hml, hown, hts⟩ (zX6_thrown l D a' cs' 12 (by omega) _ _) (cwV 0 hts gL_law_X6_thrown rfl rfl rfl (by decide +kernel) ⟨Nat.le_of_ble_eq_true rfl, Nat.le_of_ble_eq_true rfl⟩) hm.2.1 hm.2.2.2.2.1 hw (by omega) mE_o kcX6 rfl hl.1 (Nat.le_of_ble_eq_true rfl) dL_law_652 ⟨Nat.le_of_ble_eq_true rfl, Nat.le_of_ble_eq_true rfl⟩) hw hA (fun H locs hw => ?_)
  refine w_top0 (v := 2) (rfl) ?_
  refine lv_iload hx hb dL_law_655 (lv_at hl 1 rfl) ?_
  refine lv_icmp_eq (tgt := 662) hx hb dL_law_657 (by decide) (fun _ => ?_) (fun c1 => absurd rfl c1)
  refine lv_iload hx hb dL_law_662 (lv_at hl 1 rfl) ?_
  refine lv_if_ne (tgt := 679) hx hb dL_law_664 (by decide) (fun _ => ?_) (fun c1 => absurd c1 (by decide))
  refine lv_goto (tgt := 1793) hx hb dL_law_679 (by decide) ?_
  refine W.widen (k := 600002) (n := 7302232) (Nat.le_of_ble_eq_true rfl) (Nat.le_of_ble_eq_true rfl) ?_
  exact l_fin C0 hw.2.2 (lv_sub hl [2, 6] rfl)
set_option maxHeartbeats 4000000 in
set_option maxRecDepth 100000 in
theorem ll_pump_5 {p : Program} {e : Env} {s : State} {m : MethodId} {below : List Frame} {meth : Method} {c : Code} {l : Launch} (hst : l.stackTraces = false) {b : Nat} {xs : Nat → Int32} (C0 : lw_At p s m meth c b 5 xs) {D : va_G} {a : Nat → Nat} {cs : Nat → ClassId} {a' : Nat → Nat} {cs' : Nat → ClassId} {o : Nat} {cJ : ClassId} {fl : Nat → Int64} (hm : lM D cs cs' cJ s) {H : Heap} {locs : List Loc} (hw : lW D a cs a' cs' o cJ fl s H locs) {ls : Array Slot} (hl : lv_has ls 9 [(0, .ref b), (1, .ref (a 0)), (2, .ref (a' 10)), (3, .ref o), (4, .int 0)]) (k : Nat) (hk : k < 8) (hk1 : xs 1 = nI k) (j : Nat) (hj : j < 8) (hk2 : xs 2 = nI j) (he : ¬ nI k = nI j) (h2 : 1 ≤ xs 3) : W p l e room_1 s m #[Value.ref b] below meth c H locs 47 402 (lw_Z below #[Value.ref b] s) (F0 m 602 ls []) := by
  obtain ⟨hx, hb, hr, hml, hown, hts0, hX, hbl, hlocks, hgv⟩ := id C0
  have hts : ∀ w ∈ wsL_law, w.before #[Value.ref b] s = true := fun w h => hts0 w (wsL_law_in w h)
  have hown : s.vm.findClass RL = some m.cls := hown
  have hA : ∀ q, s.heap.size ≤ q → lA s q := fun _ h => h
  have hbA : ¬ lA s b := Nat.not_le.mpr hbl
  refine lv_aload_n hx hb dL_law_602 rfl (lv_at hl 1 rfl) ?_
  refine l_ld (k := 1) (v := nI k) hx hb hX hbl hbA hw.2.2 (lv_at hl 0 rfl) (lv_at hl 4 rfl) hk1 (by decide) dL_law_603 dL_law_604 dL_law_606 (by decide) dL_law_607 dL_law_608 ?_
  refine l_ld (k := 2) (v := nI j) hx hb hX hbl hbA hw.2.2 (lv_at hl 0 rfl) (lv_at hl 4 rfl) hk2 (by decide) dL_law_609 dL_law_610 dL_law_612 (by decide) dL_law_613 dL_law_614 ?_
  refine l_ld (k := 3) (v := xs 3) hx hb hX hbl hbA hw.2.2 (lv_at hl 0 rfl) (lv_at hl 4 rfl) rfl (by decide) dL_law_615 dL_law_616 dL_law_618 (by decide) dL_law_619 dL_law_620 ?_
  refine lv_aload_n hx hb dL_law_621 rfl (lv_at hl 3 rfl) ?_
  refine lh_x (As := [.ref (a 0), .int (nI k), .int (nI j), .int (xs 3), .ref o]) ⟨hx, hb, hml, hown, hts⟩ (zL_pump_x5 l hst D a cs f_new o cJ fl (lW_so hw) k j hk hj (xs 3) he h2 (pu5 h2) _) (vx_cwSW 5 hts gL_law_L_pump rfl rfl rfl (by decide +kernel) ⟨Nat.le_of_ble_eq_true rfl, Nat.le_of_ble_eq_true rfl⟩) hm hw rfl hl.1 dL_law_622 ⟨Nat.le_of_ble_eq_true rfl, Nat.le_of_ble_eq_true rfl⟩ (fun H locs hw => ?_)
  refine lv_istore (lv' := [(5, .int 3), (0, .ref b), (1, .ref (a 0)), (2, .ref (a' 10)), (3, .ref o), (4, .int 0)]) hx hb dL_law_625 hl (by decide) rfl (fun ls hl => ?_)
  refine lv_aload_n hx hb dL_law_627 rfl (lv_at hl 3 rfl) ?_
  refine l_ld (k := 1) (v := nI k) hx hb hX hbl hbA hw.2.2 (lv_at hl 1 rfl) (lv_at hl 5 rfl) hk1 (by decide) dL_law_628 dL_law_629 dL_law_631 (by decide) dL_law_632 dL_law_633 ?_
  refine l_ld (k := 2) (v := nI j) hx hb hX hbl hbA hw.2.2 (lv_at hl 1 rfl) (lv_at hl 5 rfl) hk2 (by decide) dL_law_634 dL_law_635 dL_law_637 (by decide) dL_law_638 dL_law_639 ?_
  refine l_ld (k := 3) (v := xs 3) hx hb hX hbl hbA hw.2.2 (lv_at hl 1 rfl) (lv_at hl 5 rfl) rfl (by decide) dL_law_640 dL_law_641 dL_law_643 (by decide) dL_law_644 dL_law_645 ?_
  refine mc_i (mr_V (i := 10) (As := [.int (nI k), .int (nI j), .int (xs 3)]) (rest := []) ⟨hx, hb, hml, hown, hts⟩ (zX6_pump_5 l D a' cs' 12 (by omega) m_row0 k j hk hj (xs 3) he h2 (pu6 hk h2) _) (cwV 3 hts gL_law_X6_pump rfl rfl rfl (by decide +kernel) ⟨Nat.le_of_ble_eq_true rfl, Nat.le_of_ble_eq_true rfl⟩) hm.2.1 hm.2.2.2.2.1 hw (by omega) mE_o kcX6 rfl hl.1 (Nat.le_of_ble_eq_true rfl) dL_law_646 ⟨Nat.le_of_ble_eq_true rfl, Nat.le_of_ble_eq_true rfl⟩) hw hA (fun H locs hw => ?_)
  refine lv_topi (fun v6 ev6 => ?_)
  refine lv_istore (lv' := [(6, .int v6), (5, .int 3), (0, .ref b), (1, .ref (a 0)), (2, .ref (a' 10)), (3, .ref o), (4, .int 0)]) hx hb dL_law_649 hl (by decide) rfl (fun ls hl => ?_)
  refine lv_aload_n hx hb dL_law_651 rfl (lv_at hl 4 rfl) ?_
  refine mc_i (mr_V (i := 10) (As := []) (rest := []) ⟨hx, hb, hml, hown, hts⟩ (zX6_thrown l D a' cs' 12 (by omega) _ _) (cwV 0 hts gL_law_X6_thrown rfl rfl rfl (by decide +kernel) ⟨Nat.le_of_ble_eq_true rfl, Nat.le_of_ble_eq_true rfl⟩) hm.2.1 hm.2.2.2.2.1 hw (by omega) mE_o kcX6 rfl hl.1 (Nat.le_of_ble_eq_true rfl) dL_law_652 ⟨Nat.le_of_ble_eq_true rfl, Nat.le_of_ble_eq_true rfl⟩) hw hA (fun H locs hw => ?_)
  refine w_top0 (v := 3) (rfl) ?_
  refine lv_iload hx hb dL_law_655 (lv_at hl 1 rfl) ?_
  refine lv_icmp_eq (tgt := 662) hx hb dL_law_657 (by decide) (fun _ => ?_) (fun c1 => absurd rfl c1)
  refine lv_iload hx hb dL_law_662 (lv_at hl 1 rfl) ?_
  refine lv_if_ne (tgt := 679) hx hb dL_law_664 (by decide) (fun _ => ?_) (fun c1 => absurd c1 (by decide))
  refine lv_goto (tgt := 1793) hx hb dL_law_679 (by decide) ?_
  refine W.widen (k := 600002) (n := 7302232) (Nat.le_of_ble_eq_true rfl) (Nat.le_of_ble_eq_true rfl) ?_
  exact l_fin C0 hw.2.2 (lv_sub hl [2, 6] rfl)
set_option maxHeartbeats 4000000 in
set_option maxRecDepth 100000 in
theorem ll_right_1 {p : Program} {e : Env} {s : State} {m : MethodId} {below : List Frame} {meth : Method} {c : Code} {l : Launch} (hst : l.stackTraces = false) {b : Nat} {xs : Nat → Int32} (C0 : lw_At p s m meth c b 5 xs) {D : va_G} {a : Nat → Nat} {cs : Nat → ClassId} {a' : Nat → Nat} {cs' : Nat → ClassId} {o : Nat} {cJ : ClassId} {fl : Nat → Int64} (hm : lM D cs cs' cJ s) {H : Heap} {locs : List Loc} (hw : lW D a cs a' cs' o cJ fl s H locs) {ls : Array Slot} (hl : lv_has ls 9 [(0, .ref b), (1, .ref (a 0)), (2, .ref (a' 10)), (3, .ref o), (4, .int 0)]) (hp : xs 1 < 0 ∨ ¬ xs 1 < 0 ∧ ¬ xs 1 < f_new 0 3) : W p l e room_1 s m #[Value.ref b] below meth c H locs 47 402 (lw_Z below #[Value.ref b] s) (F0 m 726 ls []) := by
  obtain ⟨hx, hb, hr, hml, hown, hts0, hX, hbl, hlocks, hgv⟩ := id C0
  have hts : ∀ w ∈ wsL_law, w.before #[Value.ref b] s = true := fun w h => hts0 w (wsL_law_in w h)
  have hown : s.vm.findClass RL = some m.cls := hown
  have hA : ∀ q, s.heap.size ≤ q → lA s q := fun _ h => h
  have hbA : ¬ lA s b := Nat.not_le.mpr hbl
  refine lv_aload_n hx hb dL_law_726 rfl (lv_at hl 1 rfl) ?_
  refine l_ld (k := 1) (v := xs 1) hx hb hX hbl hbA hw.2.2 (lv_at hl 0 rfl) (lv_at hl 4 rfl) rfl (by decide) dL_law_727 dL_law_728 dL_law_730 (by decide) dL_law_731 dL_law_732 ?_
  refine l_ld (k := 2) (v := xs 2) hx hb hX hbl hbA hw.2.2 (lv_at hl 0 rfl) (lv_at hl 4 rfl) rfl (by decide) dL_law_733 dL_law_734 dL_law_736 (by decide) dL_law_737 dL_law_738 ?_
  refine l_ld (k := 3) (v := xs 3) hx hb hX hbl hbA hw.2.2 (lv_at hl 0 rfl) (lv_at hl 4 rfl) rfl (by decide) dL_law_739 dL_law_740 dL_law_742 (by decide) dL_law_743 dL_law_744 ?_
  refine lv_aload_n hx hb dL_law_745 rfl (lv_at hl 3 rfl) ?_
  refine lh_x (As := [.ref (a 0), .int (xs 1), .int (xs 2), .int (xs 3), .ref o]) ⟨hx, hb, hml, hown, hts⟩ (zL_right_x1 l hst D a cs f_new o cJ fl (lW_so hw) (xs 1) hp (xs 2) (xs 3) _) (vx_cwSW 5 hts gL_law_L_right rfl rfl rfl (by decide +kernel) ⟨Nat.le_of_ble_eq_true rfl, Nat.le_of_ble_eq_true rfl⟩) hm hw rfl hl.1 dL_law_746 ⟨Nat.le_of_ble_eq_true rfl, Nat.le_of_ble_eq_true rfl⟩ (fun H locs hw => ?_)
  refine lv_istore (lv' := [(5, .int 1), (0, .ref b), (1, .ref (a 0)), (2, .ref (a' 10)), (3, .ref o), (4, .int 0)]) hx hb dL_law_749 hl (by decide) rfl (fun ls hl => ?_)
  refine lv_aload_n hx hb dL_law_751 rfl (lv_at hl 3 rfl) ?_
  refine l_ld (k := 1) (v := xs 1) hx hb hX hbl hbA hw.2.2 (lv_at hl 1 rfl) (lv_at hl 5 rfl) rfl (by decide) dL_law_752 dL_law_753 dL_law_755 (by decide) dL_law_756 dL_law_757 ?_
  refine l_ld (k := 2) (v := xs 2) hx hb hX hbl hbA hw.2.2 (lv_at hl 1 rfl) (lv_at hl 5 rfl) rfl (by decide) dL_law_758 dL_law_759 dL_law_761 (by decide) dL_law_762 dL_law_763 ?_
  refine l_ld (k := 3) (v := xs 3) hx hb hX hbl hbA hw.2.2 (lv_at hl 1 rfl) (lv_at hl 5 rfl) rfl (by decide) dL_law_764 dL_law_765 dL_law_767 (by decide) dL_law_768 dL_law_769 ?_
  refine mc_i (mr_V (i := 10) (As := [.int (xs 1), .int (xs 2), .int (xs 3)]) (rest := []) ⟨hx, hb, hml, hown, hts⟩ (zX6_right_1 l D a' cs' 12 (by omega) m_row0 fr0.2.2.2.2.2.2 (xs 1) (xs 2) (xs 3) _) (cwV 3 hts gL_law_X6_right rfl rfl rfl (by decide +kernel) ⟨Nat.le_of_ble_eq_true rfl, Nat.le_of_ble_eq_true rfl⟩) hm.2.1 hm.2.2.2.2.1 hw (by omega) mE_o kcX6 rfl hl.1 (Nat.le_of_ble_eq_true rfl) dL_law_770 ⟨Nat.le_of_ble_eq_true rfl, Nat.le_of_ble_eq_true rfl⟩) hw hA (fun H locs hw => ?_)
  refine lv_topi (fun v6 ev6 => ?_)
  refine lv_istore (lv' := [(6, .int v6), (5, .int 1), (0, .ref b), (1, .ref (a 0)), (2, .ref (a' 10)), (3, .ref o), (4, .int 0)]) hx hb dL_law_773 hl (by decide) rfl (fun ls hl => ?_)
  refine lv_aload_n hx hb dL_law_775 rfl (lv_at hl 4 rfl) ?_
  refine mc_i (mr_V (i := 10) (As := []) (rest := []) ⟨hx, hb, hml, hown, hts⟩ (zX6_thrown l D a' cs' 12 (by omega) _ _) (cwV 0 hts gL_law_X6_thrown rfl rfl rfl (by decide +kernel) ⟨Nat.le_of_ble_eq_true rfl, Nat.le_of_ble_eq_true rfl⟩) hm.2.1 hm.2.2.2.2.1 hw (by omega) mE_o kcX6 rfl hl.1 (Nat.le_of_ble_eq_true rfl) dL_law_776 ⟨Nat.le_of_ble_eq_true rfl, Nat.le_of_ble_eq_true rfl⟩) hw hA (fun H locs hw => ?_)
  refine w_top0 (v := 1) (rfl) ?_
  refine lv_iload hx hb dL_law_779 (lv_at hl 1 rfl) ?_
  refine lv_icmp_eq (tgt := 786) hx hb dL_law_781 (by decide) (fun _ => ?_) (fun c1 => absurd rfl c1)
  refine lv_iload hx hb dL_law_786 (lv_at hl 1 rfl) ?_
  refine lv_if_ne (tgt := 803) hx hb dL_law_788 (by decide) (fun _ => ?_) (fun c1 => absurd c1 (by decide))
  refine lv_goto (tgt := 1793) hx hb dL_law_803 (by decide) ?_
  refine W.widen (k := 600002) (n := 7302232) (Nat.le_of_ble_eq_true rfl) (Nat.le_of_ble_eq_true rfl) ?_
  exact l_fin C0 hw.2.2 (lv_sub hl [2, 6] rfl)
set_option maxHeartbeats 4000000 in
set_option maxRecDepth 100000 in
theorem ll_harvest_1 {p : Program} {e : Env} {s : State} {m : MethodId} {below : List Frame} {meth : Method} {c : Code} {l : Launch} (hst : l.stackTraces = false) {b : Nat} {xs : Nat → Int32} (C0 : lw_At p s m meth c b 5 xs) {D : va_G} {a : Nat → Nat} {cs : Nat → ClassId} {a' : Nat → Nat} {cs' : Nat → ClassId} {o : Nat} {cJ : ClassId} {fl : Nat → Int64} (hm : lM D cs cs' cJ s) {H : Heap} {locs : List Loc} (hw : lW D a cs a' cs' o cJ fl s H locs) {ls : Array Slot} (hl : lv_has ls 9 [(0, .ref b), (1, .ref (a 0)), (2, .ref (a' 10)), (3, .ref o), (4, .int 0)]) (hp : xs 1 < 5 ∨ ¬ xs 1 < 5 ∧ ¬ xs 1 < 8) (hp2 : g_X6_isNoPan (xs 1) = 1) : W p l e room_1 s m #[Value.ref b] below meth c H locs 47 402 (lw_Z below #[Value.ref b] s) (F0 m 806 ls []) := by
  obtain ⟨hx, hb, hr, hml, hown, hts0, hX, hbl, hlocks, hgv⟩ := id C0
  have hts : ∀ w ∈ wsL_law, w.before #[Value.ref b] s = true := fun w h => hts0 w (wsL_law_in w h)
  have hown : s.vm.findClass RL = some m.cls := hown
  have hA : ∀ q, s.heap.size ≤ q → lA s q := fun _ h => h
  have hbA : ¬ lA s b := Nat.not_le.mpr hbl
  refine lv_aload_n hx hb dL_law_806 rfl (lv_at hl 1 rfl) ?_
  refine l_ld (k := 1) (v := xs 1) hx hb hX hbl hbA hw.2.2 (lv_at hl 0 rfl) (lv_at hl 4 rfl) rfl (by decide) dL_law_807 dL_law_808 dL_law_810 (by decide) dL_law_811 dL_law_812 ?_
  refine l_ld (k := 2) (v := xs 2) hx hb hX hbl hbA hw.2.2 (lv_at hl 0 rfl) (lv_at hl 4 rfl) rfl (by decide) dL_law_813 dL_law_814 dL_law_816 (by decide) dL_law_817 dL_law_818 ?_
  refine l_bool hx hb dL_law_819 dL_law_822 dL_law_823 dL_law_826 ?_
  refine lv_aload_n hx hb dL_law_827 rfl (lv_at hl 3 rfl) ?_
  refine lh_x (As := [.ref (a 0), .int (xs 1), .int (g_X6_one (xs 2)), .ref o]) ⟨hx, hb, hml, hown, hts⟩ (zL_harvest_x1 l hst D a cs f_new o cJ fl (lW_so hw) (xs 1) hp (g_X6_one (xs 2)) _) (vx_cwSW 4 hts gL_law_L_harvest rfl rfl rfl (by decide +kernel) ⟨Nat.le_of_ble_eq_true rfl, Nat.le_of_ble_eq_true rfl⟩) hm hw rfl hl.1 dL_law_828 ⟨Nat.le_of_ble_eq_true rfl, Nat.le_of_ble_eq_true rfl⟩ (fun H locs hw => ?_)
  refine lv_istore (lv' := [(5, .int 1), (0, .ref b), (1, .ref (a 0)), (2, .ref (a' 10)), (3, .ref o), (4, .int 0)]) hx hb dL_law_831 hl (by decide) rfl (fun ls hl => ?_)
  refine lv_aload_n hx hb dL_law_833 rfl (lv_at hl 3 rfl) ?_
  refine l_ld (k := 1) (v := xs 1) hx hb hX hbl hbA hw.2.2 (lv_at hl 1 rfl) (lv_at hl 5 rfl) rfl (by decide) dL_law_834 dL_law_835 dL_law_837 (by decide) dL_law_838 dL_law_839 ?_
  refine l_ld (k := 2) (v := xs 2) hx hb hX hbl hbA hw.2.2 (lv_at hl 1 rfl) (lv_at hl 5 rfl) rfl (by decide) dL_law_840 dL_law_841 dL_law_843 (by decide) dL_law_844 dL_law_845 ?_
  refine l_bool hx hb dL_law_846 dL_law_849 dL_law_850 dL_law_853 ?_
  refine mc_i (mr_V (i := 10) (As := [.int (xs 1), .int (g_X6_one (xs 2))]) (rest := []) ⟨hx, hb, hml, hown, hts⟩ (zX6_harvest_1 l D a' cs' 12 (by omega) m_row0 (xs 1) (g_X6_one (xs 2)) hp2 _) (cwV 2 hts gL_law_X6_harvest rfl rfl rfl (by decide +kernel) ⟨Nat.le_of_ble_eq_true rfl, Nat.le_of_ble_eq_true rfl⟩) hm.2.1 hm.2.2.2.2.1 hw (by omega) mE_o kcX6 rfl hl.1 (Nat.le_of_ble_eq_true rfl) dL_law_854 ⟨Nat.le_of_ble_eq_true rfl, Nat.le_of_ble_eq_true rfl⟩) hw hA (fun H locs hw => ?_)
  refine lv_topi (fun v6 ev6 => ?_)
  refine lv_istore (lv' := [(6, .int v6), (5, .int 1), (0, .ref b), (1, .ref (a 0)), (2, .ref (a' 10)), (3, .ref o), (4, .int 0)]) hx hb dL_law_857 hl (by decide) rfl (fun ls hl => ?_)
  refine lv_aload_n hx hb dL_law_859 rfl (lv_at hl 4 rfl) ?_
  refine mc_i (mr_V (i := 10) (As := []) (rest := []) ⟨hx, hb, hml, hown, hts⟩ (zX6_thrown l D a' cs' 12 (by omega) _ _) (cwV 0 hts gL_law_X6_thrown rfl rfl rfl (by decide +kernel) ⟨Nat.le_of_ble_eq_true rfl, Nat.le_of_ble_eq_true rfl⟩) hm.2.1 hm.2.2.2.2.1 hw (by omega) mE_o kcX6 rfl hl.1 (Nat.le_of_ble_eq_true rfl) dL_law_860 ⟨Nat.le_of_ble_eq_true rfl, Nat.le_of_ble_eq_true rfl⟩) hw hA (fun H locs hw => ?_)
  refine w_top0 (v := 1) (rfl) ?_
  refine lv_iload hx hb dL_law_863 (lv_at hl 1 rfl) ?_
  refine lv_icmp_eq (tgt := 870) hx hb dL_law_865 (by decide) (fun _ => ?_) (fun c1 => absurd rfl c1)
  refine lv_iload hx hb dL_law_870 (lv_at hl 1 rfl) ?_
  refine lv_if_ne (tgt := 887) hx hb dL_law_872 (by decide) (fun _ => ?_) (fun c1 => absurd c1 (by decide))
  refine lv_goto (tgt := 1793) hx hb dL_law_887 (by decide) ?_
  refine W.widen (k := 600002) (n := 7302232) (Nat.le_of_ble_eq_true rfl) (Nat.le_of_ble_eq_true rfl) ?_
  exact l_fin C0 hw.2.2 (lv_sub hl [2, 6] rfl)
set_option maxHeartbeats 4000000 in
set_option maxRecDepth 100000 in
theorem ll_harvest_2 {p : Program} {e : Env} {s : State} {m : MethodId} {below : List Frame} {meth : Method} {c : Code} {l : Launch} (hst : l.stackTraces = false) {b : Nat} {xs : Nat → Int32} (C0 : lw_At p s m meth c b 5 xs) {D : va_G} {a : Nat → Nat} {cs : Nat → ClassId} {a' : Nat → Nat} {cs' : Nat → ClassId} {o : Nat} {cJ : ClassId} {fl : Nat → Int64} (hm : lM D cs cs' cJ s) {H : Heap} {locs : List Loc} (hw : lW D a cs a' cs' o cJ fl s H locs) {ls : Array Slot} (hl : lv_has ls 9 [(0, .ref b), (1, .ref (a 0)), (2, .ref (a' 10)), (3, .ref o), (4, .int 0)]) (q : Nat) (hq : q < 3) (hk1 : xs 1 = nI (5 + q)) : W p l e room_1 s m #[Value.ref b] below meth c H locs 47 402 (lw_Z below #[Value.ref b] s) (F0 m 806 ls []) := by
  obtain ⟨hx, hb, hr, hml, hown, hts0, hX, hbl, hlocks, hgv⟩ := id C0
  have hts : ∀ w ∈ wsL_law, w.before #[Value.ref b] s = true := fun w h => hts0 w (wsL_law_in w h)
  have hown : s.vm.findClass RL = some m.cls := hown
  have hA : ∀ q, s.heap.size ≤ q → lA s q := fun _ h => h
  have hbA : ¬ lA s b := Nat.not_le.mpr hbl
  refine lv_aload_n hx hb dL_law_806 rfl (lv_at hl 1 rfl) ?_
  refine l_ld (k := 1) (v := nI (5 + q)) hx hb hX hbl hbA hw.2.2 (lv_at hl 0 rfl) (lv_at hl 4 rfl) hk1 (by decide) dL_law_807 dL_law_808 dL_law_810 (by decide) dL_law_811 dL_law_812 ?_
  refine l_ld (k := 2) (v := xs 2) hx hb hX hbl hbA hw.2.2 (lv_at hl 0 rfl) (lv_at hl 4 rfl) rfl (by decide) dL_law_813 dL_law_814 dL_law_816 (by decide) dL_law_817 dL_law_818 ?_
  refine l_bool hx hb dL_law_819 dL_law_822 dL_law_823 dL_law_826 ?_
  refine lv_aload_n hx hb dL_law_827 rfl (lv_at hl 3 rfl) ?_
  refine lh_x (As := [.ref (a 0), .int (nI (5 + q)), .int (g_X6_one (xs 2)), .ref o]) ⟨hx, hb, hml, hown, hts⟩ (zL_harvest_x2 l hst D a cs f_new o cJ fl (lW_so hw) q hq (g_X6_one (xs 2)) (by unfold f_X1_canBeHarvested; rw [fn_k (by decide)]; exact if_pos (by decide)) _) (vx_cwSW 4 hts gL_law_L_harvest rfl rfl rfl (by decide +kernel) ⟨Nat.le_of_ble_eq_true rfl, Nat.le_of_ble_eq_true rfl⟩) hm hw rfl hl.1 dL_law_828 ⟨Nat.le_of_ble_eq_true rfl, Nat.le_of_ble_eq_true rfl⟩ (fun H locs hw => ?_)
  refine lv_istore (lv' := [(5, .int 2), (0, .ref b), (1, .ref (a 0)), (2, .ref (a' 10)), (3, .ref o), (4, .int 0)]) hx hb dL_law_831 hl (by decide) rfl (fun ls hl => ?_)
  refine lv_aload_n hx hb dL_law_833 rfl (lv_at hl 3 rfl) ?_
  refine l_ld (k := 1) (v := nI (5 + q)) hx hb hX hbl hbA hw.2.2 (lv_at hl 1 rfl) (lv_at hl 5 rfl) hk1 (by decide) dL_law_834 dL_law_835 dL_law_837 (by decide) dL_law_838 dL_law_839 ?_
  refine l_ld (k := 2) (v := xs 2) hx hb hX hbl hbA hw.2.2 (lv_at hl 1 rfl) (lv_at hl 5 rfl) rfl (by decide) dL_law_840 dL_law_841 dL_law_843 (by decide) dL_law_844 dL_law_845 ?_
  refine l_bool hx hb dL_law_846 dL_law_849 dL_law_850 dL_law_853 ?_
  refine mc_i (mr_V (i := 10) (As := [.int (nI (5 + q)), .int (g_X6_one (xs 2))]) (rest := []) ⟨hx, hb, hml, hown, hts⟩ (zX6_harvest_2 l D a' cs' 12 (by omega) m_row0 q hq (g_X6_one (xs 2)) (by unfold g_X6_canHarvest; rw [fr0.1 (5 + q) (by omega) 6 (by decide) (by decide)]; exact if_pos (by decide)) _) (cwV 2 hts gL_law_X6_harvest rfl rfl rfl (by decide +kernel) ⟨Nat.le_of_ble_eq_true rfl, Nat.le_of_ble_eq_true rfl⟩) hm.2.1 hm.2.2.2.2.1 hw (by omega) mE_o kcX6 rfl hl.1 (Nat.le_of_ble_eq_true rfl) dL_law_854 ⟨Nat.le_of_ble_eq_true rfl, Nat.le_of_ble_eq_true rfl⟩) hw hA (fun H locs hw => ?_)
  refine lv_topi (fun v6 ev6 => ?_)
  refine lv_istore (lv' := [(6, .int v6), (5, .int 2), (0, .ref b), (1, .ref (a 0)), (2, .ref (a' 10)), (3, .ref o), (4, .int 0)]) hx hb dL_law_857 hl (by decide) rfl (fun ls hl => ?_)
  refine lv_aload_n hx hb dL_law_859 rfl (lv_at hl 4 rfl) ?_
  refine mc_i (mr_V (i := 10) (As := []) (rest := []) ⟨hx, hb, hml, hown, hts⟩ (zX6_thrown l D a' cs' 12 (by omega) _ _) (cwV 0 hts gL_law_X6_thrown rfl rfl rfl (by decide +kernel) ⟨Nat.le_of_ble_eq_true rfl, Nat.le_of_ble_eq_true rfl⟩) hm.2.1 hm.2.2.2.2.1 hw (by omega) mE_o kcX6 rfl hl.1 (Nat.le_of_ble_eq_true rfl) dL_law_860 ⟨Nat.le_of_ble_eq_true rfl, Nat.le_of_ble_eq_true rfl⟩) hw hA (fun H locs hw => ?_)
  refine w_top0 (v := 2) (rfl) ?_
  refine lv_iload hx hb dL_law_863 (lv_at hl 1 rfl) ?_
  refine lv_icmp_eq (tgt := 870) hx hb dL_law_865 (by decide) (fun _ => ?_) (fun c1 => absurd rfl c1)
  refine lv_iload hx hb dL_law_870 (lv_at hl 1 rfl) ?_
  refine lv_if_ne (tgt := 887) hx hb dL_law_872 (by decide) (fun _ => ?_) (fun c1 => absurd c1 (by decide))
  refine lv_goto (tgt := 1793) hx hb dL_law_887 (by decide) ?_
  refine W.widen (k := 600002) (n := 7302232) (Nat.le_of_ble_eq_true rfl) (Nat.le_of_ble_eq_true rfl) ?_
  exact l_fin C0 hw.2.2 (lv_sub hl [2, 6] rfl)
set_option maxHeartbeats 4000000 in
set_option maxRecDepth 100000 in
theorem ll_flower_1 {p : Program} {e : Env} {s : State} {m : MethodId} {below : List Frame} {meth : Method} {c : Code} {l : Launch} (hst : l.stackTraces = false) {b : Nat} {xs : Nat → Int32} (C0 : lw_At p s m meth c b 5 xs) {D : va_G} {a : Nat → Nat} {cs : Nat → ClassId} {a' : Nat → Nat} {cs' : Nat → ClassId} {o : Nat} {cJ : ClassId} {fl : Nat → Int64} (hm : lM D cs cs' cJ s) {H : Heap} {locs : List Loc} (hw : lW D a cs a' cs' o cJ fl s H locs) {ls : Array Slot} (hl : lv_has ls 9 [(0, .ref b), (1, .ref (a 0)), (2, .ref (a' 10)), (3, .ref o), (4, .int 0)]) (hp : xs 1 < 5 ∨ ¬ xs 1 < 5 ∧ ¬ xs 1 < 8) (hp2 : g_X6_isNoPan (xs 1) = 1) : W p l e room_1 s m #[Value.ref b] below meth c H locs 47 402 (lw_Z below #[Value.ref b] s) (F0 m 890 ls []) := by
  obtain ⟨hx, hb, hr, hml, hown, hts0, hX, hbl, hlocks, hgv⟩ := id C0
  have hts : ∀ w ∈ wsL_law, w.before #[Value.ref b] s = true := fun w h => hts0 w (wsL_law_in w h)
  have hown : s.vm.findClass RL = some m.cls := hown
  have hA : ∀ q, s.heap.size ≤ q → lA s q := fun _ h => h
  have hbA : ¬ lA s b := Nat.not_le.mpr hbl
  refine lv_aload_n hx hb dL_law_890 rfl (lv_at hl 1 rfl) ?_
  refine l_ld (k := 1) (v := xs 1) hx hb hX hbl hbA hw.2.2 (lv_at hl 0 rfl) (lv_at hl 4 rfl) rfl (by decide) dL_law_891 dL_law_892 dL_law_894 (by decide) dL_law_895 dL_law_896 ?_
  refine lv_aload_n hx hb dL_law_897 rfl (lv_at hl 3 rfl) ?_
  refine lh_x (As := [.ref (a 0), .int (xs 1), .ref o]) ⟨hx, hb, hml, hown, hts⟩ (zL_flower_x1 l hst D a cs f_new o cJ fl (lW_so hw) (xs 1) hp _) (vx_cwSW 3 hts gL_law_L_flower rfl rfl rfl (by decide +kernel) ⟨Nat.le_of_ble_eq_true rfl, Nat.le_of_ble_eq_true rfl⟩) hm hw rfl hl.1 dL_law_898 ⟨Nat.le_of_ble_eq_true rfl, Nat.le_of_ble_eq_true rfl⟩ (fun H locs hw => ?_)
  refine lv_istore (lv' := [(5, .int 1), (0, .ref b), (1, .ref (a 0)), (2, .ref (a' 10)), (3, .ref o), (4, .int 0)]) hx hb dL_law_901 hl (by decide) rfl (fun ls hl => ?_)
  refine lv_aload_n hx hb dL_law_903 rfl (lv_at hl 3 rfl) ?_
  refine l_ld (k := 1) (v := xs 1) hx hb hX hbl hbA hw.2.2 (lv_at hl 1 rfl) (lv_at hl 5 rfl) rfl (by decide) dL_law_904 dL_law_905 dL_law_907 (by decide) dL_law_908 dL_law_909 ?_
  refine mc_i (mr_V (i := 10) (As := [.int (xs 1)]) (rest := []) ⟨hx, hb, hml, hown, hts⟩ (zX6_flower_1 l D a' cs' 12 (by omega) m_row0 (xs 1) hp2 _) (cwV 1 hts gL_law_X6_flower rfl rfl rfl (by decide +kernel) ⟨Nat.le_of_ble_eq_true rfl, Nat.le_of_ble_eq_true rfl⟩) hm.2.1 hm.2.2.2.2.1 hw (by omega) mE_o kcX6 rfl hl.1 (Nat.le_of_ble_eq_true rfl) dL_law_910 ⟨Nat.le_of_ble_eq_true rfl, Nat.le_of_ble_eq_true rfl⟩) hw hA (fun H locs hw => ?_)
  refine lv_topi (fun v6 ev6 => ?_)
  refine lv_istore (lv' := [(6, .int v6), (5, .int 1), (0, .ref b), (1, .ref (a 0)), (2, .ref (a' 10)), (3, .ref o), (4, .int 0)]) hx hb dL_law_913 hl (by decide) rfl (fun ls hl => ?_)
  refine lv_aload_n hx hb dL_law_915 rfl (lv_at hl 4 rfl) ?_
  refine mc_i (mr_V (i := 10) (As := []) (rest := []) ⟨hx, hb, hml, hown, hts⟩ (zX6_thrown l D a' cs' 12 (by omega) _ _) (cwV 0 hts gL_law_X6_thrown rfl rfl rfl (by decide +kernel) ⟨Nat.le_of_ble_eq_true rfl, Nat.le_of_ble_eq_true rfl⟩) hm.2.1 hm.2.2.2.2.1 hw (by omega) mE_o kcX6 rfl hl.1 (Nat.le_of_ble_eq_true rfl) dL_law_916 ⟨Nat.le_of_ble_eq_true rfl, Nat.le_of_ble_eq_true rfl⟩) hw hA (fun H locs hw => ?_)
  refine w_top0 (v := 1) (rfl) ?_
  refine lv_iload hx hb dL_law_919 (lv_at hl 1 rfl) ?_
  refine lv_icmp_eq (tgt := 926) hx hb dL_law_921 (by decide) (fun _ => ?_) (fun c1 => absurd rfl c1)
  refine lv_iload hx hb dL_law_926 (lv_at hl 1 rfl) ?_
  refine lv_if_ne (tgt := 943) hx hb dL_law_928 (by decide) (fun _ => ?_) (fun c1 => absurd c1 (by decide))
  refine lv_goto (tgt := 1793) hx hb dL_law_943 (by decide) ?_
  refine W.widen (k := 600002) (n := 7302232) (Nat.le_of_ble_eq_true rfl) (Nat.le_of_ble_eq_true rfl) ?_
  exact l_fin C0 hw.2.2 (lv_sub hl [2, 6] rfl)
set_option maxHeartbeats 4000000 in
set_option maxRecDepth 100000 in
theorem ll_flower_2 {p : Program} {e : Env} {s : State} {m : MethodId} {below : List Frame} {meth : Method} {c : Code} {l : Launch} (hst : l.stackTraces = false) {b : Nat} {xs : Nat → Int32} (C0 : lw_At p s m meth c b 5 xs) {D : va_G} {a : Nat → Nat} {cs : Nat → ClassId} {a' : Nat → Nat} {cs' : Nat → ClassId} {o : Nat} {cJ : ClassId} {fl : Nat → Int64} (hm : lM D cs cs' cJ s) {H : Heap} {locs : List Loc} (hw : lW D a cs a' cs' o cJ fl s H locs) {ls : Array Slot} (hl : lv_has ls 9 [(0, .ref b), (1, .ref (a 0)), (2, .ref (a' 10)), (3, .ref o), (4, .int 0)]) (q : Nat) (hq : q < 3) (hk1 : xs 1 = nI (5 + q)) : W p l e room_1 s m #[Value.ref b] below meth c H locs 47 402 (lw_Z below #[Value.ref b] s) (F0 m 890 ls []) := by
  obtain ⟨hx, hb, hr, hml, hown, hts0, hX, hbl, hlocks, hgv⟩ := id C0
  have hts : ∀ w ∈ wsL_law, w.before #[Value.ref b] s = true := fun w h => hts0 w (wsL_law_in w h)
  have hown : s.vm.findClass RL = some m.cls := hown
  have hA : ∀ q, s.heap.size ≤ q → lA s q := fun _ h => h
  have hbA : ¬ lA s b := Nat.not_le.mpr hbl
  refine lv_aload_n hx hb dL_law_890 rfl (lv_at hl 1 rfl) ?_
  refine l_ld (k := 1) (v := nI (5 + q)) hx hb hX hbl hbA hw.2.2 (lv_at hl 0 rfl) (lv_at hl 4 rfl) hk1 (by decide) dL_law_891 dL_law_892 dL_law_894 (by decide) dL_law_895 dL_law_896 ?_
  refine lv_aload_n hx hb dL_law_897 rfl (lv_at hl 3 rfl) ?_
  refine lh_x (As := [.ref (a 0), .int (nI (5 + q)), .ref o]) ⟨hx, hb, hml, hown, hts⟩ (zL_flower_x2 l hst D a cs f_new o cJ fl (lW_so hw) q hq (by decide) _) (vx_cwSW 3 hts gL_law_L_flower rfl rfl rfl (by decide +kernel) ⟨Nat.le_of_ble_eq_true rfl, Nat.le_of_ble_eq_true rfl⟩) hm hw rfl hl.1 dL_law_898 ⟨Nat.le_of_ble_eq_true rfl, Nat.le_of_ble_eq_true rfl⟩ (fun H locs hw => ?_)
  refine lv_istore (lv' := [(5, .int 2), (0, .ref b), (1, .ref (a 0)), (2, .ref (a' 10)), (3, .ref o), (4, .int 0)]) hx hb dL_law_901 hl (by decide) rfl (fun ls hl => ?_)
  refine lv_aload_n hx hb dL_law_903 rfl (lv_at hl 3 rfl) ?_
  refine l_ld (k := 1) (v := nI (5 + q)) hx hb hX hbl hbA hw.2.2 (lv_at hl 1 rfl) (lv_at hl 5 rfl) hk1 (by decide) dL_law_904 dL_law_905 dL_law_907 (by decide) dL_law_908 dL_law_909 ?_
  refine mc_i (mr_V (i := 10) (As := [.int (nI (5 + q))]) (rest := []) ⟨hx, hb, hml, hown, hts⟩ (zX6_flower_2 l D a' cs' 12 (by omega) m_row0 q hq (by decide) _) (cwV 1 hts gL_law_X6_flower rfl rfl rfl (by decide +kernel) ⟨Nat.le_of_ble_eq_true rfl, Nat.le_of_ble_eq_true rfl⟩) hm.2.1 hm.2.2.2.2.1 hw (by omega) mE_o kcX6 rfl hl.1 (Nat.le_of_ble_eq_true rfl) dL_law_910 ⟨Nat.le_of_ble_eq_true rfl, Nat.le_of_ble_eq_true rfl⟩) hw hA (fun H locs hw => ?_)
  refine lv_topi (fun v6 ev6 => ?_)
  refine lv_istore (lv' := [(6, .int v6), (5, .int 2), (0, .ref b), (1, .ref (a 0)), (2, .ref (a' 10)), (3, .ref o), (4, .int 0)]) hx hb dL_law_913 hl (by decide) rfl (fun ls hl => ?_)
  refine lv_aload_n hx hb dL_law_915 rfl (lv_at hl 4 rfl) ?_
  refine mc_i (mr_V (i := 10) (As := []) (rest := []) ⟨hx, hb, hml, hown, hts⟩ (zX6_thrown l D a' cs' 12 (by omega) _ _) (cwV 0 hts gL_law_X6_thrown rfl rfl rfl (by decide +kernel) ⟨Nat.le_of_ble_eq_true rfl, Nat.le_of_ble_eq_true rfl⟩) hm.2.1 hm.2.2.2.2.1 hw (by omega) mE_o kcX6 rfl hl.1 (Nat.le_of_ble_eq_true rfl) dL_law_916 ⟨Nat.le_of_ble_eq_true rfl, Nat.le_of_ble_eq_true rfl⟩) hw hA (fun H locs hw => ?_)
  refine w_top0 (v := 2) (rfl) ?_
  refine lv_iload hx hb dL_law_919 (lv_at hl 1 rfl) ?_
  refine lv_icmp_eq (tgt := 926) hx hb dL_law_921 (by decide) (fun _ => ?_) (fun c1 => absurd rfl c1)
  refine lv_iload hx hb dL_law_926 (lv_at hl 1 rfl) ?_
  refine lv_if_ne (tgt := 943) hx hb dL_law_928 (by decide) (fun _ => ?_) (fun c1 => absurd c1 (by decide))
  refine lv_goto (tgt := 1793) hx hb dL_law_943 (by decide) ?_
  refine W.widen (k := 600002) (n := 7302232) (Nat.le_of_ble_eq_true rfl) (Nat.le_of_ble_eq_true rfl) ?_
  exact l_fin C0 hw.2.2 (lv_sub hl [2, 6] rfl)
set_option maxHeartbeats 4000000 in
set_option maxRecDepth 100000 in
theorem ll_wash_1 {p : Program} {e : Env} {s : State} {m : MethodId} {below : List Frame} {meth : Method} {c : Code} {l : Launch} (hst : l.stackTraces = false) {b : Nat} {xs : Nat → Int32} (C0 : lw_At p s m meth c b 5 xs) {D : va_G} {a : Nat → Nat} {cs : Nat → ClassId} {a' : Nat → Nat} {cs' : Nat → ClassId} {o : Nat} {cJ : ClassId} {fl : Nat → Int64} (hm : lM D cs cs' cJ s) {H : Heap} {locs : List Loc} (hw : lW D a cs a' cs' o cJ fl s H locs) {ls : Array Slot} (hl : lv_has ls 9 [(0, .ref b), (1, .ref (a 0)), (2, .ref (a' 10)), (3, .ref o), (4, .int 0)]) (hp : xs 1 < 0 ∨ ¬ xs 1 < 0 ∧ ¬ xs 1 < f_new 0 3) : W p l e room_1 s m #[Value.ref b] below meth c H locs 47 402 (lw_Z below #[Value.ref b] s) (F0 m 946 ls []) := by
  obtain ⟨hx, hb, hr, hml, hown, hts0, hX, hbl, hlocks, hgv⟩ := id C0
  have hts : ∀ w ∈ wsL_law, w.before #[Value.ref b] s = true := fun w h => hts0 w (wsL_law_in w h)
  have hown : s.vm.findClass RL = some m.cls := hown
  have hA : ∀ q, s.heap.size ≤ q → lA s q := fun _ h => h
  have hbA : ¬ lA s b := Nat.not_le.mpr hbl
  refine lv_aload_n hx hb dL_law_946 rfl (lv_at hl 1 rfl) ?_
  refine l_ld (k := 1) (v := xs 1) hx hb hX hbl hbA hw.2.2 (lv_at hl 0 rfl) (lv_at hl 4 rfl) rfl (by decide) dL_law_947 dL_law_948 dL_law_950 (by decide) dL_law_951 dL_law_952 ?_
  refine lv_aload_n hx hb dL_law_953 rfl (lv_at hl 3 rfl) ?_
  refine lh_x (As := [.ref (a 0), .int (xs 1), .ref o]) ⟨hx, hb, hml, hown, hts⟩ (zL_wash_x1 l hst D a cs f_new o cJ fl (lW_so hw) (xs 1) hp _) (vx_cwSW 3 hts gL_law_L_wash rfl rfl rfl (by decide +kernel) ⟨Nat.le_of_ble_eq_true rfl, Nat.le_of_ble_eq_true rfl⟩) hm hw rfl hl.1 dL_law_954 ⟨Nat.le_of_ble_eq_true rfl, Nat.le_of_ble_eq_true rfl⟩ (fun H locs hw => ?_)
  refine lv_istore (lv' := [(5, .int 1), (0, .ref b), (1, .ref (a 0)), (2, .ref (a' 10)), (3, .ref o), (4, .int 0)]) hx hb dL_law_957 hl (by decide) rfl (fun ls hl => ?_)
  refine lv_aload_n hx hb dL_law_959 rfl (lv_at hl 3 rfl) ?_
  refine l_ld (k := 1) (v := xs 1) hx hb hX hbl hbA hw.2.2 (lv_at hl 1 rfl) (lv_at hl 5 rfl) rfl (by decide) dL_law_960 dL_law_961 dL_law_963 (by decide) dL_law_964 dL_law_965 ?_
  refine mc_i (mr_V (i := 10) (As := [.int (xs 1)]) (rest := []) ⟨hx, hb, hml, hown, hts⟩ (zX6_wash_1 l D a' cs' 12 (by omega) m_row0 fr0.2.2.2.2.2.2 (xs 1) _) (cwV 1 hts gL_law_X6_wash rfl rfl rfl (by decide +kernel) ⟨Nat.le_of_ble_eq_true rfl, Nat.le_of_ble_eq_true rfl⟩) hm.2.1 hm.2.2.2.2.1 hw (by omega) mE_o kcX6 rfl hl.1 (Nat.le_of_ble_eq_true rfl) dL_law_966 ⟨Nat.le_of_ble_eq_true rfl, Nat.le_of_ble_eq_true rfl⟩) hw hA (fun H locs hw => ?_)
  refine lv_topi (fun v6 ev6 => ?_)
  refine lv_istore (lv' := [(6, .int v6), (5, .int 1), (0, .ref b), (1, .ref (a 0)), (2, .ref (a' 10)), (3, .ref o), (4, .int 0)]) hx hb dL_law_969 hl (by decide) rfl (fun ls hl => ?_)
  refine lv_aload_n hx hb dL_law_971 rfl (lv_at hl 4 rfl) ?_
  refine mc_i (mr_V (i := 10) (As := []) (rest := []) ⟨hx, hb, hml, hown, hts⟩ (zX6_thrown l D a' cs' 12 (by omega) _ _) (cwV 0 hts gL_law_X6_thrown rfl rfl rfl (by decide +kernel) ⟨Nat.le_of_ble_eq_true rfl, Nat.le_of_ble_eq_true rfl⟩) hm.2.1 hm.2.2.2.2.1 hw (by omega) mE_o kcX6 rfl hl.1 (Nat.le_of_ble_eq_true rfl) dL_law_972 ⟨Nat.le_of_ble_eq_true rfl, Nat.le_of_ble_eq_true rfl⟩) hw hA (fun H locs hw => ?_)
  refine w_top0 (v := 1) (rfl) ?_
  refine lv_iload hx hb dL_law_975 (lv_at hl 1 rfl) ?_
  refine lv_icmp_eq (tgt := 982) hx hb dL_law_977 (by decide) (fun _ => ?_) (fun c1 => absurd rfl c1)
  refine lv_iload hx hb dL_law_982 (lv_at hl 1 rfl) ?_
  refine lv_if_ne (tgt := 999) hx hb dL_law_984 (by decide) (fun _ => ?_) (fun c1 => absurd c1 (by decide))
  refine lv_goto (tgt := 1793) hx hb dL_law_999 (by decide) ?_
  refine W.widen (k := 600002) (n := 7302232) (Nat.le_of_ble_eq_true rfl) (Nat.le_of_ble_eq_true rfl) ?_
  exact l_fin C0 hw.2.2 (lv_sub hl [2, 6] rfl)
set_option maxHeartbeats 4000000 in
set_option maxRecDepth 100000 in
theorem ll_sell_1 {p : Program} {e : Env} {s : State} {m : MethodId} {below : List Frame} {meth : Method} {c : Code} {l : Launch} (hst : l.stackTraces = false) {b : Nat} {xs : Nat → Int32} (C0 : lw_At p s m meth c b 5 xs) {D : va_G} {a : Nat → Nat} {cs : Nat → ClassId} {a' : Nat → Nat} {cs' : Nat → ClassId} {o : Nat} {cJ : ClassId} {fl : Nat → Int64} (hm : lM D cs cs' cJ s) {H : Heap} {locs : List Loc} (hw : lW D a cs a' cs' o cJ fl s H locs) {ls : Array Slot} (hl : lv_has ls 9 [(0, .ref b), (1, .ref (a 0)), (2, .ref (a' 10)), (3, .ref o), (4, .int 0)]) (hp : xs 1 < 0 ∨ ¬ xs 1 < 0 ∧ ¬ xs 1 < f_new 0 3) : W p l e room_1 s m #[Value.ref b] below meth c H locs 47 402 (lw_Z below #[Value.ref b] s) (F0 m 1002 ls []) := by
  obtain ⟨hx, hb, hr, hml, hown, hts0, hX, hbl, hlocks, hgv⟩ := id C0
  have hts : ∀ w ∈ wsL_law, w.before #[Value.ref b] s = true := fun w h => hts0 w (wsL_law_in w h)
  have hown : s.vm.findClass RL = some m.cls := hown
  have hA : ∀ q, s.heap.size ≤ q → lA s q := fun _ h => h
  have hbA : ¬ lA s b := Nat.not_le.mpr hbl
  refine lv_aload_n hx hb dL_law_1002 rfl (lv_at hl 1 rfl) ?_
  refine l_ld (k := 1) (v := xs 1) hx hb hX hbl hbA hw.2.2 (lv_at hl 0 rfl) (lv_at hl 4 rfl) rfl (by decide) dL_law_1003 dL_law_1004 dL_law_1006 (by decide) dL_law_1007 dL_law_1008 ?_
  refine l_ld (k := 2) (v := xs 2) hx hb hX hbl hbA hw.2.2 (lv_at hl 0 rfl) (lv_at hl 4 rfl) rfl (by decide) dL_law_1009 dL_law_1010 dL_law_1012 (by decide) dL_law_1013 dL_law_1014 ?_
  refine l_ld (k := 3) (v := xs 3) hx hb hX hbl hbA hw.2.2 (lv_at hl 0 rfl) (lv_at hl 4 rfl) rfl (by decide) dL_law_1015 dL_law_1016 dL_law_1018 (by decide) dL_law_1019 dL_law_1020 ?_
  refine lv_aload_n hx hb dL_law_1021 rfl (lv_at hl 3 rfl) ?_
  refine lh_x (As := [.ref (a 0), .int (xs 1), .int (xs 2), .int (xs 3), .ref o]) ⟨hx, hb, hml, hown, hts⟩ (zL_sell_x1 l hst D a cs f_new o cJ fl (lW_so hw) (xs 1) hp (xs 2) (xs 3) _) (vx_cwSW 5 hts gL_law_L_sell rfl rfl rfl (by decide +kernel) ⟨Nat.le_of_ble_eq_true rfl, Nat.le_of_ble_eq_true rfl⟩) hm hw rfl hl.1 dL_law_1022 ⟨Nat.le_of_ble_eq_true rfl, Nat.le_of_ble_eq_true rfl⟩ (fun H locs hw => ?_)
  refine lv_istore (lv' := [(5, .int 1), (0, .ref b), (1, .ref (a 0)), (2, .ref (a' 10)), (3, .ref o), (4, .int 0)]) hx hb dL_law_1025 hl (by decide) rfl (fun ls hl => ?_)
  refine lv_aload_n hx hb dL_law_1027 rfl (lv_at hl 3 rfl) ?_
  refine l_ld (k := 1) (v := xs 1) hx hb hX hbl hbA hw.2.2 (lv_at hl 1 rfl) (lv_at hl 5 rfl) rfl (by decide) dL_law_1028 dL_law_1029 dL_law_1031 (by decide) dL_law_1032 dL_law_1033 ?_
  refine l_ld (k := 2) (v := xs 2) hx hb hX hbl hbA hw.2.2 (lv_at hl 1 rfl) (lv_at hl 5 rfl) rfl (by decide) dL_law_1034 dL_law_1035 dL_law_1037 (by decide) dL_law_1038 dL_law_1039 ?_
  refine l_ld (k := 3) (v := xs 3) hx hb hX hbl hbA hw.2.2 (lv_at hl 1 rfl) (lv_at hl 5 rfl) rfl (by decide) dL_law_1040 dL_law_1041 dL_law_1043 (by decide) dL_law_1044 dL_law_1045 ?_
  refine mc_i (mr_V (i := 10) (As := [.int (xs 1), .int (xs 2), .int (xs 3)]) (rest := []) ⟨hx, hb, hml, hown, hts⟩ (zX6_sell_1 l D a' cs' 12 (by omega) m_row0 fr0.2.2.2.2.2.2 (xs 1) (xs 2) (xs 3) _) (cwV 3 hts gL_law_X6_sell rfl rfl rfl (by decide +kernel) ⟨Nat.le_of_ble_eq_true rfl, Nat.le_of_ble_eq_true rfl⟩) hm.2.1 hm.2.2.2.2.1 hw (by omega) mE_o kcX6 rfl hl.1 (Nat.le_of_ble_eq_true rfl) dL_law_1046 ⟨Nat.le_of_ble_eq_true rfl, Nat.le_of_ble_eq_true rfl⟩) hw hA (fun H locs hw => ?_)
  refine lv_topi (fun v6 ev6 => ?_)
  refine lv_istore (lv' := [(6, .int v6), (5, .int 1), (0, .ref b), (1, .ref (a 0)), (2, .ref (a' 10)), (3, .ref o), (4, .int 0)]) hx hb dL_law_1049 hl (by decide) rfl (fun ls hl => ?_)
  refine lv_aload_n hx hb dL_law_1051 rfl (lv_at hl 4 rfl) ?_
  refine mc_i (mr_V (i := 10) (As := []) (rest := []) ⟨hx, hb, hml, hown, hts⟩ (zX6_thrown l D a' cs' 12 (by omega) _ _) (cwV 0 hts gL_law_X6_thrown rfl rfl rfl (by decide +kernel) ⟨Nat.le_of_ble_eq_true rfl, Nat.le_of_ble_eq_true rfl⟩) hm.2.1 hm.2.2.2.2.1 hw (by omega) mE_o kcX6 rfl hl.1 (Nat.le_of_ble_eq_true rfl) dL_law_1052 ⟨Nat.le_of_ble_eq_true rfl, Nat.le_of_ble_eq_true rfl⟩) hw hA (fun H locs hw => ?_)
  refine w_top0 (v := 1) (rfl) ?_
  refine lv_iload hx hb dL_law_1055 (lv_at hl 1 rfl) ?_
  refine lv_icmp_eq (tgt := 1062) hx hb dL_law_1057 (by decide) (fun _ => ?_) (fun c1 => absurd rfl c1)
  refine lv_iload hx hb dL_law_1062 (lv_at hl 1 rfl) ?_
  refine lv_if_ne (tgt := 1079) hx hb dL_law_1064 (by decide) (fun _ => ?_) (fun c1 => absurd c1 (by decide))
  refine lv_goto (tgt := 1793) hx hb dL_law_1079 (by decide) ?_
  refine W.widen (k := 600002) (n := 7302232) (Nat.le_of_ble_eq_true rfl) (Nat.le_of_ble_eq_true rfl) ?_
  exact l_fin C0 hw.2.2 (lv_sub hl [2, 6] rfl)
set_option maxHeartbeats 4000000 in
set_option maxRecDepth 100000 in
theorem ll_ofPond_1 {p : Program} {e : Env} {s : State} {m : MethodId} {below : List Frame} {meth : Method} {c : Code} {l : Launch} (hst : l.stackTraces = false) {b : Nat} {xs : Nat → Int32} (C0 : lw_At p s m meth c b 5 xs) {D : va_G} {a : Nat → Nat} {cs : Nat → ClassId} {a' : Nat → Nat} {cs' : Nat → ClassId} {o : Nat} {cJ : ClassId} {fl : Nat → Int64} (hm : lM D cs cs' cJ s) {H : Heap} {locs : List Loc} (hw : lW D a cs a' cs' o cJ fl s H locs) {ls : Array Slot} (hl : lv_has ls 9 [(0, .ref b), (1, .ref (a 0)), (2, .ref (a' 10)), (3, .ref o), (4, .int 0)]) (hp : xs 1 < 0 ∨ ¬ xs 1 < 0 ∧ ¬ xs 1 < 8) (hp2 : g_X6_isNoPond (xs 1) = 1) : W p l e room_1 s m #[Value.ref b] below meth c H locs 47 402 (lw_Z below #[Value.ref b] s) (F0 m 1082 ls []) := by
  obtain ⟨hx, hb, hr, hml, hown, hts0, hX, hbl, hlocks, hgv⟩ := id C0
  have hts : ∀ w ∈ wsL_law, w.before #[Value.ref b] s = true := fun w h => hts0 w (wsL_law_in w h)
  have hown : s.vm.findClass RL = some m.cls := hown
  have hA : ∀ q, s.heap.size ≤ q → lA s q := fun _ h => h
  have hbA : ¬ lA s b := Nat.not_le.mpr hbl
  refine lv_aload_n hx hb dL_law_1082 rfl (lv_at hl 1 rfl) ?_
  refine l_ld (k := 1) (v := xs 1) hx hb hX hbl hbA hw.2.2 (lv_at hl 0 rfl) (lv_at hl 4 rfl) rfl (by decide) dL_law_1083 dL_law_1084 dL_law_1086 (by decide) dL_law_1087 dL_law_1088 ?_
  refine l_ld (k := 2) (v := xs 2) hx hb hX hbl hbA hw.2.2 (lv_at hl 0 rfl) (lv_at hl 4 rfl) rfl (by decide) dL_law_1089 dL_law_1090 dL_law_1092 (by decide) dL_law_1093 dL_law_1094 ?_
  refine lv_aload_n hx hb dL_law_1095 rfl (lv_at hl 3 rfl) ?_
  refine lh_x (As := [.ref (a 0), .int (xs 1), .int (xs 2), .ref o]) ⟨hx, hb, hml, hown, hts⟩ (zL_ofPond_x1 l hst D a cs f_new o cJ fl (lW_so hw) (xs 1) hp (xs 2) _) (vx_cwSW 4 hts gL_law_L_ofPond rfl rfl rfl (by decide +kernel) ⟨Nat.le_of_ble_eq_true rfl, Nat.le_of_ble_eq_true rfl⟩) hm hw rfl hl.1 dL_law_1096 ⟨Nat.le_of_ble_eq_true rfl, Nat.le_of_ble_eq_true rfl⟩ (fun H locs hw => ?_)
  refine lv_istore (lv' := [(5, .int 1), (0, .ref b), (1, .ref (a 0)), (2, .ref (a' 10)), (3, .ref o), (4, .int 0)]) hx hb dL_law_1099 hl (by decide) rfl (fun ls hl => ?_)
  refine lv_aload_n hx hb dL_law_1101 rfl (lv_at hl 3 rfl) ?_
  refine l_ld (k := 1) (v := xs 1) hx hb hX hbl hbA hw.2.2 (lv_at hl 1 rfl) (lv_at hl 5 rfl) rfl (by decide) dL_law_1102 dL_law_1103 dL_law_1105 (by decide) dL_law_1106 dL_law_1107 ?_
  refine l_ld (k := 2) (v := xs 2) hx hb hX hbl hbA hw.2.2 (lv_at hl 1 rfl) (lv_at hl 5 rfl) rfl (by decide) dL_law_1108 dL_law_1109 dL_law_1111 (by decide) dL_law_1112 dL_law_1113 ?_
  refine mc_i (mr_V (i := 10) (As := [.int (xs 1), .int (xs 2)]) (rest := []) ⟨hx, hb, hml, hown, hts⟩ (zX6_ofPond_1 l D a' cs' 12 (by omega) m_row0 (xs 1) (xs 2) hp2 _) (cwV 2 hts gL_law_X6_ofPond rfl rfl rfl (by decide +kernel) ⟨Nat.le_of_ble_eq_true rfl, Nat.le_of_ble_eq_true rfl⟩) hm.2.1 hm.2.2.2.2.1 hw (by omega) mE_o kcX6 rfl hl.1 (Nat.le_of_ble_eq_true rfl) dL_law_1114 ⟨Nat.le_of_ble_eq_true rfl, Nat.le_of_ble_eq_true rfl⟩) hw hA (fun H locs hw => ?_)
  refine lv_topi (fun v6 ev6 => ?_)
  refine lv_istore (lv' := [(6, .int v6), (5, .int 1), (0, .ref b), (1, .ref (a 0)), (2, .ref (a' 10)), (3, .ref o), (4, .int 0)]) hx hb dL_law_1117 hl (by decide) rfl (fun ls hl => ?_)
  refine lv_aload_n hx hb dL_law_1119 rfl (lv_at hl 4 rfl) ?_
  refine mc_i (mr_V (i := 10) (As := []) (rest := []) ⟨hx, hb, hml, hown, hts⟩ (zX6_thrown l D a' cs' 12 (by omega) _ _) (cwV 0 hts gL_law_X6_thrown rfl rfl rfl (by decide +kernel) ⟨Nat.le_of_ble_eq_true rfl, Nat.le_of_ble_eq_true rfl⟩) hm.2.1 hm.2.2.2.2.1 hw (by omega) mE_o kcX6 rfl hl.1 (Nat.le_of_ble_eq_true rfl) dL_law_1120 ⟨Nat.le_of_ble_eq_true rfl, Nat.le_of_ble_eq_true rfl⟩) hw hA (fun H locs hw => ?_)
  refine w_top0 (v := 1) (rfl) ?_
  refine lv_iload hx hb dL_law_1123 (lv_at hl 1 rfl) ?_
  refine lv_icmp_eq (tgt := 1130) hx hb dL_law_1125 (by decide) (fun _ => ?_) (fun c1 => absurd rfl c1)
  refine lv_iload hx hb dL_law_1130 (lv_at hl 1 rfl) ?_
  refine lv_if_ne (tgt := 1147) hx hb dL_law_1132 (by decide) (fun _ => ?_) (fun c1 => absurd c1 (by decide))
  refine lv_goto (tgt := 1793) hx hb dL_law_1147 (by decide) ?_
  refine W.widen (k := 600002) (n := 7302232) (Nat.le_of_ble_eq_true rfl) (Nat.le_of_ble_eq_true rfl) ?_
  exact l_fin C0 hw.2.2 (lv_sub hl [2, 6] rfl)
set_option maxHeartbeats 4000000 in
set_option maxRecDepth 100000 in
theorem ll_ofPond_2 {p : Program} {e : Env} {s : State} {m : MethodId} {below : List Frame} {meth : Method} {c : Code} {l : Launch} (hst : l.stackTraces = false) {b : Nat} {xs : Nat → Int32} (C0 : lw_At p s m meth c b 5 xs) {D : va_G} {a : Nat → Nat} {cs : Nat → ClassId} {a' : Nat → Nat} {cs' : Nat → ClassId} {o : Nat} {cJ : ClassId} {fl : Nat → Int64} (hm : lM D cs cs' cJ s) {H : Heap} {locs : List Loc} (hw : lW D a cs a' cs' o cJ fl s H locs) {ls : Array Slot} (hl : lv_has ls 9 [(0, .ref b), (1, .ref (a 0)), (2, .ref (a' 10)), (3, .ref o), (4, .int 0)]) (k : Nat) (hk : k < 8) (hk1 : xs 1 = nI k) (h1 : xs 2 < 0) (hy : g_X6_isIn (xs 2) 0 10 = 0) : W p l e room_1 s m #[Value.ref b] below meth c H locs 47 402 (lw_Z below #[Value.ref b] s) (F0 m 1082 ls []) := by
  obtain ⟨hx, hb, hr, hml, hown, hts0, hX, hbl, hlocks, hgv⟩ := id C0
  have hts : ∀ w ∈ wsL_law, w.before #[Value.ref b] s = true := fun w h => hts0 w (wsL_law_in w h)
  have hown : s.vm.findClass RL = some m.cls := hown
  have hA : ∀ q, s.heap.size ≤ q → lA s q := fun _ h => h
  have hbA : ¬ lA s b := Nat.not_le.mpr hbl
  refine lv_aload_n hx hb dL_law_1082 rfl (lv_at hl 1 rfl) ?_
  refine l_ld (k := 1) (v := nI k) hx hb hX hbl hbA hw.2.2 (lv_at hl 0 rfl) (lv_at hl 4 rfl) hk1 (by decide) dL_law_1083 dL_law_1084 dL_law_1086 (by decide) dL_law_1087 dL_law_1088 ?_
  refine l_ld (k := 2) (v := xs 2) hx hb hX hbl hbA hw.2.2 (lv_at hl 0 rfl) (lv_at hl 4 rfl) rfl (by decide) dL_law_1089 dL_law_1090 dL_law_1092 (by decide) dL_law_1093 dL_law_1094 ?_
  refine lv_aload_n hx hb dL_law_1095 rfl (lv_at hl 3 rfl) ?_
  refine lh_x (As := [.ref (a 0), .int (nI k), .int (xs 2), .ref o]) ⟨hx, hb, hml, hown, hts⟩ (zL_ofPond_x2 l hst D a cs f_new o cJ fl (lW_so hw) k hk (xs 2) h1 _) (vx_cwSW 4 hts gL_law_L_ofPond rfl rfl rfl (by decide +kernel) ⟨Nat.le_of_ble_eq_true rfl, Nat.le_of_ble_eq_true rfl⟩) hm hw rfl hl.1 dL_law_1096 ⟨Nat.le_of_ble_eq_true rfl, Nat.le_of_ble_eq_true rfl⟩ (fun H locs hw => ?_)
  refine lv_istore (lv' := [(5, .int 2), (0, .ref b), (1, .ref (a 0)), (2, .ref (a' 10)), (3, .ref o), (4, .int 0)]) hx hb dL_law_1099 hl (by decide) rfl (fun ls hl => ?_)
  refine lv_aload_n hx hb dL_law_1101 rfl (lv_at hl 3 rfl) ?_
  refine l_ld (k := 1) (v := nI k) hx hb hX hbl hbA hw.2.2 (lv_at hl 1 rfl) (lv_at hl 5 rfl) hk1 (by decide) dL_law_1102 dL_law_1103 dL_law_1105 (by decide) dL_law_1106 dL_law_1107 ?_
  refine l_ld (k := 2) (v := xs 2) hx hb hX hbl hbA hw.2.2 (lv_at hl 1 rfl) (lv_at hl 5 rfl) rfl (by decide) dL_law_1108 dL_law_1109 dL_law_1111 (by decide) dL_law_1112 dL_law_1113 ?_
  refine mc_i (mr_V (i := 10) (As := [.int (nI k), .int (xs 2)]) (rest := []) ⟨hx, hb, hml, hown, hts⟩ (zX6_ofPond_2 l D a' cs' 12 (by omega) m_row0 k hk (xs 2) hy _) (cwV 2 hts gL_law_X6_ofPond rfl rfl rfl (by decide +kernel) ⟨Nat.le_of_ble_eq_true rfl, Nat.le_of_ble_eq_true rfl⟩) hm.2.1 hm.2.2.2.2.1 hw (by omega) mE_o kcX6 rfl hl.1 (Nat.le_of_ble_eq_true rfl) dL_law_1114 ⟨Nat.le_of_ble_eq_true rfl, Nat.le_of_ble_eq_true rfl⟩) hw hA (fun H locs hw => ?_)
  refine lv_topi (fun v6 ev6 => ?_)
  refine lv_istore (lv' := [(6, .int v6), (5, .int 2), (0, .ref b), (1, .ref (a 0)), (2, .ref (a' 10)), (3, .ref o), (4, .int 0)]) hx hb dL_law_1117 hl (by decide) rfl (fun ls hl => ?_)
  refine lv_aload_n hx hb dL_law_1119 rfl (lv_at hl 4 rfl) ?_
  refine mc_i (mr_V (i := 10) (As := []) (rest := []) ⟨hx, hb, hml, hown, hts⟩ (zX6_thrown l D a' cs' 12 (by omega) _ _) (cwV 0 hts gL_law_X6_thrown rfl rfl rfl (by decide +kernel) ⟨Nat.le_of_ble_eq_true rfl, Nat.le_of_ble_eq_true rfl⟩) hm.2.1 hm.2.2.2.2.1 hw (by omega) mE_o kcX6 rfl hl.1 (Nat.le_of_ble_eq_true rfl) dL_law_1120 ⟨Nat.le_of_ble_eq_true rfl, Nat.le_of_ble_eq_true rfl⟩) hw hA (fun H locs hw => ?_)
  refine w_top0 (v := 2) (rfl) ?_
  refine lv_iload hx hb dL_law_1123 (lv_at hl 1 rfl) ?_
  refine lv_icmp_eq (tgt := 1130) hx hb dL_law_1125 (by decide) (fun _ => ?_) (fun c1 => absurd rfl c1)
  refine lv_iload hx hb dL_law_1130 (lv_at hl 1 rfl) ?_
  refine lv_if_ne (tgt := 1147) hx hb dL_law_1132 (by decide) (fun _ => ?_) (fun c1 => absurd c1 (by decide))
  refine lv_goto (tgt := 1793) hx hb dL_law_1147 (by decide) ?_
  refine W.widen (k := 600002) (n := 7302232) (Nat.le_of_ble_eq_true rfl) (Nat.le_of_ble_eq_true rfl) ?_
  exact l_fin C0 hw.2.2 (lv_sub hl [2, 6] rfl)
set_option maxHeartbeats 4000000 in
set_option maxRecDepth 100000 in
theorem ll_ofPond_3 {p : Program} {e : Env} {s : State} {m : MethodId} {below : List Frame} {meth : Method} {c : Code} {l : Launch} (hst : l.stackTraces = false) {b : Nat} {xs : Nat → Int32} (C0 : lw_At p s m meth c b 5 xs) {D : va_G} {a : Nat → Nat} {cs : Nat → ClassId} {a' : Nat → Nat} {cs' : Nat → ClassId} {o : Nat} {cJ : ClassId} {fl : Nat → Int64} (hm : lM D cs cs' cJ s) {H : Heap} {locs : List Loc} (hw : lW D a cs a' cs' o cJ fl s H locs) {ls : Array Slot} (hl : lv_has ls 9 [(0, .ref b), (1, .ref (a 0)), (2, .ref (a' 10)), (3, .ref o), (4, .int 0)]) (k : Nat) (hk : k < 8) (hk1 : xs 1 = nI k) (h1 : ¬ xs 2 < 0) (h2 : ¬ xs 2 ≤ 10) (hy : g_X6_isIn (xs 2) 0 10 = 0) : W p l e room_1 s m #[Value.ref b] below meth c H locs 47 402 (lw_Z below #[Value.ref b] s) (F0 m 1082 ls []) := by
  obtain ⟨hx, hb, hr, hml, hown, hts0, hX, hbl, hlocks, hgv⟩ := id C0
  have hts : ∀ w ∈ wsL_law, w.before #[Value.ref b] s = true := fun w h => hts0 w (wsL_law_in w h)
  have hown : s.vm.findClass RL = some m.cls := hown
  have hA : ∀ q, s.heap.size ≤ q → lA s q := fun _ h => h
  have hbA : ¬ lA s b := Nat.not_le.mpr hbl
  refine lv_aload_n hx hb dL_law_1082 rfl (lv_at hl 1 rfl) ?_
  refine l_ld (k := 1) (v := nI k) hx hb hX hbl hbA hw.2.2 (lv_at hl 0 rfl) (lv_at hl 4 rfl) hk1 (by decide) dL_law_1083 dL_law_1084 dL_law_1086 (by decide) dL_law_1087 dL_law_1088 ?_
  refine l_ld (k := 2) (v := xs 2) hx hb hX hbl hbA hw.2.2 (lv_at hl 0 rfl) (lv_at hl 4 rfl) rfl (by decide) dL_law_1089 dL_law_1090 dL_law_1092 (by decide) dL_law_1093 dL_law_1094 ?_
  refine lv_aload_n hx hb dL_law_1095 rfl (lv_at hl 3 rfl) ?_
  refine lh_x (As := [.ref (a 0), .int (nI k), .int (xs 2), .ref o]) ⟨hx, hb, hml, hown, hts⟩ (zL_ofPond_x3 l hst D a cs f_new o cJ fl (lW_so hw) k hk (xs 2) h1 h2 _) (vx_cwSW 4 hts gL_law_L_ofPond rfl rfl rfl (by decide +kernel) ⟨Nat.le_of_ble_eq_true rfl, Nat.le_of_ble_eq_true rfl⟩) hm hw rfl hl.1 dL_law_1096 ⟨Nat.le_of_ble_eq_true rfl, Nat.le_of_ble_eq_true rfl⟩ (fun H locs hw => ?_)
  refine lv_istore (lv' := [(5, .int 2), (0, .ref b), (1, .ref (a 0)), (2, .ref (a' 10)), (3, .ref o), (4, .int 0)]) hx hb dL_law_1099 hl (by decide) rfl (fun ls hl => ?_)
  refine lv_aload_n hx hb dL_law_1101 rfl (lv_at hl 3 rfl) ?_
  refine l_ld (k := 1) (v := nI k) hx hb hX hbl hbA hw.2.2 (lv_at hl 1 rfl) (lv_at hl 5 rfl) hk1 (by decide) dL_law_1102 dL_law_1103 dL_law_1105 (by decide) dL_law_1106 dL_law_1107 ?_
  refine l_ld (k := 2) (v := xs 2) hx hb hX hbl hbA hw.2.2 (lv_at hl 1 rfl) (lv_at hl 5 rfl) rfl (by decide) dL_law_1108 dL_law_1109 dL_law_1111 (by decide) dL_law_1112 dL_law_1113 ?_
  refine mc_i (mr_V (i := 10) (As := [.int (nI k), .int (xs 2)]) (rest := []) ⟨hx, hb, hml, hown, hts⟩ (zX6_ofPond_2 l D a' cs' 12 (by omega) m_row0 k hk (xs 2) hy _) (cwV 2 hts gL_law_X6_ofPond rfl rfl rfl (by decide +kernel) ⟨Nat.le_of_ble_eq_true rfl, Nat.le_of_ble_eq_true rfl⟩) hm.2.1 hm.2.2.2.2.1 hw (by omega) mE_o kcX6 rfl hl.1 (Nat.le_of_ble_eq_true rfl) dL_law_1114 ⟨Nat.le_of_ble_eq_true rfl, Nat.le_of_ble_eq_true rfl⟩) hw hA (fun H locs hw => ?_)
  refine lv_topi (fun v6 ev6 => ?_)
  refine lv_istore (lv' := [(6, .int v6), (5, .int 2), (0, .ref b), (1, .ref (a 0)), (2, .ref (a' 10)), (3, .ref o), (4, .int 0)]) hx hb dL_law_1117 hl (by decide) rfl (fun ls hl => ?_)
  refine lv_aload_n hx hb dL_law_1119 rfl (lv_at hl 4 rfl) ?_
  refine mc_i (mr_V (i := 10) (As := []) (rest := []) ⟨hx, hb, hml, hown, hts⟩ (zX6_thrown l D a' cs' 12 (by omega) _ _) (cwV 0 hts gL_law_X6_thrown rfl rfl rfl (by decide +kernel) ⟨Nat.le_of_ble_eq_true rfl, Nat.le_of_ble_eq_true rfl⟩) hm.2.1 hm.2.2.2.2.1 hw (by omega) mE_o kcX6 rfl hl.1 (Nat.le_of_ble_eq_true rfl) dL_law_1120 ⟨Nat.le_of_ble_eq_true rfl, Nat.le_of_ble_eq_true rfl⟩) hw hA (fun H locs hw => ?_)
  refine w_top0 (v := 2) (rfl) ?_
  refine lv_iload hx hb dL_law_1123 (lv_at hl 1 rfl) ?_
  refine lv_icmp_eq (tgt := 1130) hx hb dL_law_1125 (by decide) (fun _ => ?_) (fun c1 => absurd rfl c1)
  refine lv_iload hx hb dL_law_1130 (lv_at hl 1 rfl) ?_
  refine lv_if_ne (tgt := 1147) hx hb dL_law_1132 (by decide) (fun _ => ?_) (fun c1 => absurd c1 (by decide))
  refine lv_goto (tgt := 1793) hx hb dL_law_1147 (by decide) ?_
  refine W.widen (k := 600002) (n := 7302232) (Nat.le_of_ble_eq_true rfl) (Nat.le_of_ble_eq_true rfl) ?_
  exact l_fin C0 hw.2.2 (lv_sub hl [2, 6] rfl)
set_option maxHeartbeats 4000000 in
set_option maxRecDepth 100000 in
theorem ll_ofPond_4 {p : Program} {e : Env} {s : State} {m : MethodId} {below : List Frame} {meth : Method} {c : Code} {l : Launch} (hst : l.stackTraces = false) {b : Nat} {xs : Nat → Int32} (C0 : lw_At p s m meth c b 5 xs) {D : va_G} {a : Nat → Nat} {cs : Nat → ClassId} {a' : Nat → Nat} {cs' : Nat → ClassId} {o : Nat} {cJ : ClassId} {fl : Nat → Int64} (hm : lM D cs cs' cJ s) {H : Heap} {locs : List Loc} (hw : lW D a cs a' cs' o cJ fl s H locs) {ls : Array Slot} (hl : lv_has ls 9 [(0, .ref b), (1, .ref (a 0)), (2, .ref (a' 10)), (3, .ref o), (4, .int 0)]) (k : Nat) (hk : k < 8) (hk1 : xs 1 = nI k) (w : Nat) (hw11 : w < 11) (hk2 : xs 2 = nI w) (hy : g_X6_isIn (nI w) 0 10 = 1) : W p l e room_1 s m #[Value.ref b] below meth c H locs 47 402 (lw_Z below #[Value.ref b] s) (F0 m 1082 ls []) := by
  obtain ⟨hx, hb, hr, hml, hown, hts0, hX, hbl, hlocks, hgv⟩ := id C0
  have hts : ∀ w ∈ wsL_law, w.before #[Value.ref b] s = true := fun w h => hts0 w (wsL_law_in w h)
  have hown : s.vm.findClass RL = some m.cls := hown
  have hA : ∀ q, s.heap.size ≤ q → lA s q := fun _ h => h
  have hbA : ¬ lA s b := Nat.not_le.mpr hbl
  refine lv_aload_n hx hb dL_law_1082 rfl (lv_at hl 1 rfl) ?_
  refine l_ld (k := 1) (v := nI k) hx hb hX hbl hbA hw.2.2 (lv_at hl 0 rfl) (lv_at hl 4 rfl) hk1 (by decide) dL_law_1083 dL_law_1084 dL_law_1086 (by decide) dL_law_1087 dL_law_1088 ?_
  refine l_ld (k := 2) (v := nI w) hx hb hX hbl hbA hw.2.2 (lv_at hl 0 rfl) (lv_at hl 4 rfl) hk2 (by decide) dL_law_1089 dL_law_1090 dL_law_1092 (by decide) dL_law_1093 dL_law_1094 ?_
  refine lv_aload_n hx hb dL_law_1095 rfl (lv_at hl 3 rfl) ?_
  refine lh_n (As := [.ref (a 0), .int (nI k), .int (nI w), .ref o]) ⟨hx, hb, hml, hown, hts⟩ (zL_ofPond_n l hst D a cs f_new o cJ fl (lW_so hw) k hk w hw11 _) (vx_cwSW 4 hts gL_law_L_ofPond rfl rfl rfl (by decide +kernel) ⟨Nat.le_of_ble_eq_true rfl, Nat.le_of_ble_eq_true rfl⟩) hm hw rfl hl.1 dL_law_1096 ⟨Nat.le_of_ble_eq_true rfl, Nat.le_of_ble_eq_true rfl⟩ (fun u H locs hu hw => ?_)
  refine lv_istore (lv' := [(5, .int 0), (0, .ref b), (1, .ref (a 0)), (2, .ref (a' 10)), (3, .ref o), (4, .int 0)]) hx hb dL_law_1099 hl (by decide) rfl (fun ls hl => ?_)
  refine lv_aload_n hx hb dL_law_1101 rfl (lv_at hl 3 rfl) ?_
  refine l_ld (k := 1) (v := nI k) hx hb hX hbl hbA hw.2.2 (lv_at hl 1 rfl) (lv_at hl 5 rfl) hk1 (by decide) dL_law_1102 dL_law_1103 dL_law_1105 (by decide) dL_law_1106 dL_law_1107 ?_
  refine l_ld (k := 2) (v := nI w) hx hb hX hbl hbA hw.2.2 (lv_at hl 1 rfl) (lv_at hl 5 rfl) hk2 (by decide) dL_law_1108 dL_law_1109 dL_law_1111 (by decide) dL_law_1112 dL_law_1113 ?_
  refine mc_i (mr_V (i := 10) (As := [.int (nI k), .int (nI w)]) (rest := []) ⟨hx, hb, hml, hown, hts⟩ (zX6_ofPond_3 l D a' cs' 12 (by omega) m_row0 k hk w hw11 hy (by rw [fr0.2.1 k hk]; decide) (by rw [fr0.2.2.1 k hk]; decide) _) (cwV 2 hts gL_law_X6_ofPond rfl rfl rfl (by decide +kernel) ⟨Nat.le_of_ble_eq_true rfl, Nat.le_of_ble_eq_true rfl⟩) hm.2.1 hm.2.2.2.2.1 hw (by omega) mE_o kcX6 rfl hl.1 (Nat.le_of_ble_eq_true rfl) dL_law_1114 ⟨Nat.le_of_ble_eq_true rfl, Nat.le_of_ble_eq_true rfl⟩) hw hA (fun H locs hw => ?_)
  refine lv_topi (fun v6 ev6 => ?_)
  refine lv_istore (lv' := [(6, .int v6), (5, .int 0), (0, .ref b), (1, .ref (a 0)), (2, .ref (a' 10)), (3, .ref o), (4, .int 0)]) hx hb dL_law_1117 hl (by decide) rfl (fun ls hl => ?_)
  refine lv_aload_n hx hb dL_law_1119 rfl (lv_at hl 4 rfl) ?_
  refine mc_i (mr_V (i := 10) (As := []) (rest := []) ⟨hx, hb, hml, hown, hts⟩ (zX6_thrown l D a' cs' 12 (by omega) _ _) (cwV 0 hts gL_law_X6_thrown rfl rfl rfl (by decide +kernel) ⟨Nat.le_of_ble_eq_true rfl, Nat.le_of_ble_eq_true rfl⟩) hm.2.1 hm.2.2.2.2.1 hw (by omega) mE_o kcX6 rfl hl.1 (Nat.le_of_ble_eq_true rfl) dL_law_1120 ⟨Nat.le_of_ble_eq_true rfl, Nat.le_of_ble_eq_true rfl⟩) hw hA (fun H locs hw => ?_)
  refine w_top0 (v := 0) (rfl) ?_
  refine lv_iload hx hb dL_law_1123 (lv_at hl 1 rfl) ?_
  refine lv_icmp_eq (tgt := 1130) hx hb dL_law_1125 (by decide) (fun _ => ?_) (fun c1 => absurd rfl c1)
  refine lv_iload hx hb dL_law_1130 (lv_at hl 1 rfl) ?_
  refine lv_if_ne (tgt := 1147) hx hb dL_law_1132 (by decide) (fun c1 => absurd rfl c1) (fun _ => ?_)
  refine lv_aload_n hx hb dL_law_1135 rfl (lv_at hl 5 rfl) ?_
  refine lv_iconst (v := 0) hx hb dL_law_1136 (by decide) ?_
  refine va_lald hx hb hm.2.2.1 hw.1 12 0 (by rw [show (12 : Nat) = 12 + 0 from rfl, mX_x]; rfl) rfl (vp_in_nI (n := 0) (by decide) (by decide)) dL_law_1137 ?_
  refine lv_iload hx hb dL_law_1138 (lv_at hl 0 rfl) ?_
  refine lv_i2l hx hb dL_law_1140 rfl ?_
  refine W.lcmp hx hb dL_law_1141 ?_
  refine lv_if_eq (tgt := 1147) hx hb dL_law_1142 (by decide) (fun _ => ?_) (fun c1 => absurd ((lg_cmp_eq _ _).mpr (hu.trans (congrArg Int32.toInt64 (((q_tellX hk hw11).trans (q_tellM (mFr_thr fr0) hk hw11).symm).trans ev6.symm)))) c1)
  refine lv_goto (tgt := 1793) hx hb dL_law_1147 (by decide) ?_
  refine W.widen (k := 600002) (n := 7302232) (Nat.le_of_ble_eq_true rfl) (Nat.le_of_ble_eq_true rfl) ?_
  exact l_fin C0 hw.2.2 (lv_sub hl [2, 6] rfl)
set_option maxHeartbeats 4000000 in
set_option maxRecDepth 100000 in
theorem ll_ofFamily_1 {p : Program} {e : Env} {s : State} {m : MethodId} {below : List Frame} {meth : Method} {c : Code} {l : Launch} (hst : l.stackTraces = false) {b : Nat} {xs : Nat → Int32} (C0 : lw_At p s m meth c b 5 xs) {D : va_G} {a : Nat → Nat} {cs : Nat → ClassId} {a' : Nat → Nat} {cs' : Nat → ClassId} {o : Nat} {cJ : ClassId} {fl : Nat → Int64} (hm : lM D cs cs' cJ s) {H : Heap} {locs : List Loc} (hw : lW D a cs a' cs' o cJ fl s H locs) {ls : Array Slot} (hl : lv_has ls 9 [(0, .ref b), (1, .ref (a 0)), (2, .ref (a' 10)), (3, .ref o), (4, .int 0)]) (hp : xs 1 < 0 ∨ ¬ xs 1 < 0 ∧ ¬ xs 1 < f_new 0 3) : W p l e room_1 s m #[Value.ref b] below meth c H locs 47 402 (lw_Z below #[Value.ref b] s) (F0 m 1150 ls []) := by
  obtain ⟨hx, hb, hr, hml, hown, hts0, hX, hbl, hlocks, hgv⟩ := id C0
  have hts : ∀ w ∈ wsL_law, w.before #[Value.ref b] s = true := fun w h => hts0 w (wsL_law_in w h)
  have hown : s.vm.findClass RL = some m.cls := hown
  have hA : ∀ q, s.heap.size ≤ q → lA s q := fun _ h => h
  have hbA : ¬ lA s b := Nat.not_le.mpr hbl
  refine lv_aload_n hx hb dL_law_1150 rfl (lv_at hl 1 rfl) ?_
  refine l_ld (k := 1) (v := xs 1) hx hb hX hbl hbA hw.2.2 (lv_at hl 0 rfl) (lv_at hl 4 rfl) rfl (by decide) dL_law_1151 dL_law_1152 dL_law_1154 (by decide) dL_law_1155 dL_law_1156 ?_
  refine l_ld (k := 2) (v := xs 2) hx hb hX hbl hbA hw.2.2 (lv_at hl 0 rfl) (lv_at hl 4 rfl) rfl (by decide) dL_law_1157 dL_law_1158 dL_law_1160 (by decide) dL_law_1161 dL_law_1162 ?_
  refine lv_aload_n hx hb dL_law_1163 rfl (lv_at hl 3 rfl) ?_
  refine lh_x (As := [.ref (a 0), .int (xs 1), .int (xs 2), .ref o]) ⟨hx, hb, hml, hown, hts⟩ (zL_ofFamily_x1 l hst D a cs f_new o cJ fl (lW_so hw) (xs 1) hp (xs 2) _) (vx_cwSW 4 hts gL_law_L_ofFamily rfl rfl rfl (by decide +kernel) ⟨Nat.le_of_ble_eq_true rfl, Nat.le_of_ble_eq_true rfl⟩) hm hw rfl hl.1 dL_law_1164 ⟨Nat.le_of_ble_eq_true rfl, Nat.le_of_ble_eq_true rfl⟩ (fun H locs hw => ?_)
  refine lv_istore (lv' := [(5, .int 1), (0, .ref b), (1, .ref (a 0)), (2, .ref (a' 10)), (3, .ref o), (4, .int 0)]) hx hb dL_law_1167 hl (by decide) rfl (fun ls hl => ?_)
  refine lv_aload_n hx hb dL_law_1169 rfl (lv_at hl 3 rfl) ?_
  refine l_ld (k := 1) (v := xs 1) hx hb hX hbl hbA hw.2.2 (lv_at hl 1 rfl) (lv_at hl 5 rfl) rfl (by decide) dL_law_1170 dL_law_1171 dL_law_1173 (by decide) dL_law_1174 dL_law_1175 ?_
  refine l_ld (k := 2) (v := xs 2) hx hb hX hbl hbA hw.2.2 (lv_at hl 1 rfl) (lv_at hl 5 rfl) rfl (by decide) dL_law_1176 dL_law_1177 dL_law_1179 (by decide) dL_law_1180 dL_law_1181 ?_
  refine mc_i (mr_V (i := 10) (As := [.int (xs 1), .int (xs 2)]) (rest := []) ⟨hx, hb, hml, hown, hts⟩ (zX6_ofFamily_1 l D a' cs' 12 (by omega) m_row0 fr0.2.2.2.2.2.2 (xs 1) (xs 2) _) (cwV 2 hts gL_law_X6_ofFamily rfl rfl rfl (by decide +kernel) ⟨Nat.le_of_ble_eq_true rfl, Nat.le_of_ble_eq_true rfl⟩) hm.2.1 hm.2.2.2.2.1 hw (by omega) mE_o kcX6 rfl hl.1 (Nat.le_of_ble_eq_true rfl) dL_law_1182 ⟨Nat.le_of_ble_eq_true rfl, Nat.le_of_ble_eq_true rfl⟩) hw hA (fun H locs hw => ?_)
  refine lv_topi (fun v6 ev6 => ?_)
  refine lv_istore (lv' := [(6, .int v6), (5, .int 1), (0, .ref b), (1, .ref (a 0)), (2, .ref (a' 10)), (3, .ref o), (4, .int 0)]) hx hb dL_law_1185 hl (by decide) rfl (fun ls hl => ?_)
  refine lv_aload_n hx hb dL_law_1187 rfl (lv_at hl 4 rfl) ?_
  refine mc_i (mr_V (i := 10) (As := []) (rest := []) ⟨hx, hb, hml, hown, hts⟩ (zX6_thrown l D a' cs' 12 (by omega) _ _) (cwV 0 hts gL_law_X6_thrown rfl rfl rfl (by decide +kernel) ⟨Nat.le_of_ble_eq_true rfl, Nat.le_of_ble_eq_true rfl⟩) hm.2.1 hm.2.2.2.2.1 hw (by omega) mE_o kcX6 rfl hl.1 (Nat.le_of_ble_eq_true rfl) dL_law_1188 ⟨Nat.le_of_ble_eq_true rfl, Nat.le_of_ble_eq_true rfl⟩) hw hA (fun H locs hw => ?_)
  refine w_top0 (v := 1) (rfl) ?_
  refine lv_iload hx hb dL_law_1191 (lv_at hl 1 rfl) ?_
  refine lv_icmp_eq (tgt := 1198) hx hb dL_law_1193 (by decide) (fun _ => ?_) (fun c1 => absurd rfl c1)
  refine lv_iload hx hb dL_law_1198 (lv_at hl 1 rfl) ?_
  refine lv_if_ne (tgt := 1215) hx hb dL_law_1200 (by decide) (fun _ => ?_) (fun c1 => absurd c1 (by decide))
  refine lv_goto (tgt := 1793) hx hb dL_law_1215 (by decide) ?_
  refine W.widen (k := 600002) (n := 7302232) (Nat.le_of_ble_eq_true rfl) (Nat.le_of_ble_eq_true rfl) ?_
  exact l_fin C0 hw.2.2 (lv_sub hl [2, 6] rfl)
set_option maxHeartbeats 4000000 in
set_option maxRecDepth 100000 in
theorem ll_rightOf_1 {p : Program} {e : Env} {s : State} {m : MethodId} {below : List Frame} {meth : Method} {c : Code} {l : Launch} (hst : l.stackTraces = false) {b : Nat} {xs : Nat → Int32} (C0 : lw_At p s m meth c b 5 xs) {D : va_G} {a : Nat → Nat} {cs : Nat → ClassId} {a' : Nat → Nat} {cs' : Nat → ClassId} {o : Nat} {cJ : ClassId} {fl : Nat → Int64} (hm : lM D cs cs' cJ s) {H : Heap} {locs : List Loc} (hw : lW D a cs a' cs' o cJ fl s H locs) {ls : Array Slot} (hl : lv_has ls 9 [(0, .ref b), (1, .ref (a 0)), (2, .ref (a' 10)), (3, .ref o), (4, .int 0)]) (hp : xs 1 < 0 ∨ ¬ xs 1 < 0 ∧ ¬ xs 1 < f_new 0 3) : W p l e room_1 s m #[Value.ref b] below meth c H locs 47 402 (lw_Z below #[Value.ref b] s) (F0 m 1218 ls []) := by
  obtain ⟨hx, hb, hr, hml, hown, hts0, hX, hbl, hlocks, hgv⟩ := id C0
  have hts : ∀ w ∈ wsL_law, w.before #[Value.ref b] s = true := fun w h => hts0 w (wsL_law_in w h)
  have hown : s.vm.findClass RL = some m.cls := hown
  have hA : ∀ q, s.heap.size ≤ q → lA s q := fun _ h => h
  have hbA : ¬ lA s b := Nat.not_le.mpr hbl
  refine lv_aload_n hx hb dL_law_1218 rfl (lv_at hl 1 rfl) ?_
  refine l_ld (k := 1) (v := xs 1) hx hb hX hbl hbA hw.2.2 (lv_at hl 0 rfl) (lv_at hl 4 rfl) rfl (by decide) dL_law_1219 dL_law_1220 dL_law_1222 (by decide) dL_law_1223 dL_law_1224 ?_
  refine l_ld (k := 2) (v := xs 2) hx hb hX hbl hbA hw.2.2 (lv_at hl 0 rfl) (lv_at hl 4 rfl) rfl (by decide) dL_law_1225 dL_law_1226 dL_law_1228 (by decide) dL_law_1229 dL_law_1230 ?_
  refine lv_aload_n hx hb dL_law_1231 rfl (lv_at hl 3 rfl) ?_
  refine lh_x (As := [.ref (a 0), .int (xs 1), .int (xs 2), .ref o]) ⟨hx, hb, hml, hown, hts⟩ (zL_rightOf_x1 l hst D a cs f_new o cJ fl (lW_so hw) (xs 1) hp (xs 2) _) (vx_cwSW 4 hts gL_law_L_rightOf rfl rfl rfl (by decide +kernel) ⟨Nat.le_of_ble_eq_true rfl, Nat.le_of_ble_eq_true rfl⟩) hm hw rfl hl.1 dL_law_1232 ⟨Nat.le_of_ble_eq_true rfl, Nat.le_of_ble_eq_true rfl⟩ (fun H locs hw => ?_)
  refine lv_istore (lv' := [(5, .int 1), (0, .ref b), (1, .ref (a 0)), (2, .ref (a' 10)), (3, .ref o), (4, .int 0)]) hx hb dL_law_1235 hl (by decide) rfl (fun ls hl => ?_)
  refine lv_aload_n hx hb dL_law_1237 rfl (lv_at hl 3 rfl) ?_
  refine l_ld (k := 1) (v := xs 1) hx hb hX hbl hbA hw.2.2 (lv_at hl 1 rfl) (lv_at hl 5 rfl) rfl (by decide) dL_law_1238 dL_law_1239 dL_law_1241 (by decide) dL_law_1242 dL_law_1243 ?_
  refine l_ld (k := 2) (v := xs 2) hx hb hX hbl hbA hw.2.2 (lv_at hl 1 rfl) (lv_at hl 5 rfl) rfl (by decide) dL_law_1244 dL_law_1245 dL_law_1247 (by decide) dL_law_1248 dL_law_1249 ?_
  refine mc_i (mr_V (i := 10) (As := [.int (xs 1), .int (xs 2)]) (rest := []) ⟨hx, hb, hml, hown, hts⟩ (zX6_rightOf_1 l D a' cs' 12 (by omega) m_row0 fr0.2.2.2.2.2.2 (xs 1) (xs 2) _) (cwV 2 hts gL_law_X6_rightOf rfl rfl rfl (by decide +kernel) ⟨Nat.le_of_ble_eq_true rfl, Nat.le_of_ble_eq_true rfl⟩) hm.2.1 hm.2.2.2.2.1 hw (by omega) mE_o kcX6 rfl hl.1 (Nat.le_of_ble_eq_true rfl) dL_law_1250 ⟨Nat.le_of_ble_eq_true rfl, Nat.le_of_ble_eq_true rfl⟩) hw hA (fun H locs hw => ?_)
  refine lv_topi (fun v6 ev6 => ?_)
  refine lv_istore (lv' := [(6, .int v6), (5, .int 1), (0, .ref b), (1, .ref (a 0)), (2, .ref (a' 10)), (3, .ref o), (4, .int 0)]) hx hb dL_law_1253 hl (by decide) rfl (fun ls hl => ?_)
  refine lv_aload_n hx hb dL_law_1255 rfl (lv_at hl 4 rfl) ?_
  refine mc_i (mr_V (i := 10) (As := []) (rest := []) ⟨hx, hb, hml, hown, hts⟩ (zX6_thrown l D a' cs' 12 (by omega) _ _) (cwV 0 hts gL_law_X6_thrown rfl rfl rfl (by decide +kernel) ⟨Nat.le_of_ble_eq_true rfl, Nat.le_of_ble_eq_true rfl⟩) hm.2.1 hm.2.2.2.2.1 hw (by omega) mE_o kcX6 rfl hl.1 (Nat.le_of_ble_eq_true rfl) dL_law_1256 ⟨Nat.le_of_ble_eq_true rfl, Nat.le_of_ble_eq_true rfl⟩) hw hA (fun H locs hw => ?_)
  refine w_top0 (v := 1) (rfl) ?_
  refine lv_iload hx hb dL_law_1259 (lv_at hl 1 rfl) ?_
  refine lv_icmp_eq (tgt := 1266) hx hb dL_law_1261 (by decide) (fun _ => ?_) (fun c1 => absurd rfl c1)
  refine lv_iload hx hb dL_law_1266 (lv_at hl 1 rfl) ?_
  refine lv_if_ne (tgt := 1283) hx hb dL_law_1268 (by decide) (fun _ => ?_) (fun c1 => absurd c1 (by decide))
  refine lv_goto (tgt := 1793) hx hb dL_law_1283 (by decide) ?_
  refine W.widen (k := 600002) (n := 7302232) (Nat.le_of_ble_eq_true rfl) (Nat.le_of_ble_eq_true rfl) ?_
  exact l_fin C0 hw.2.2 (lv_sub hl [2, 6] rfl)
set_option maxHeartbeats 4000000 in
set_option maxRecDepth 100000 in
theorem ll_tide_1 {p : Program} {e : Env} {s : State} {m : MethodId} {below : List Frame} {meth : Method} {c : Code} {l : Launch} (hst : l.stackTraces = false) {b : Nat} {xs : Nat → Int32} (C0 : lw_At p s m meth c b 5 xs) {D : va_G} {a : Nat → Nat} {cs : Nat → ClassId} {a' : Nat → Nat} {cs' : Nat → ClassId} {o : Nat} {cJ : ClassId} {fl : Nat → Int64} (hm : lM D cs cs' cJ s) {H : Heap} {locs : List Loc} (hw : lW D a cs a' cs' o cJ fl s H locs) {ls : Array Slot} (hl : lv_has ls 9 [(0, .ref b), (1, .ref (a 0)), (2, .ref (a' 10)), (3, .ref o), (4, .int 0)]) (h1 : xs 1 < 0) (hy : g_X6_isIn (xs 1) 0 9999 = 0) : W p l e room_1 s m #[Value.ref b] below meth c H locs 47 402 (lw_Z below #[Value.ref b] s) (F0 m 1286 ls []) := by
  obtain ⟨hx, hb, hr, hml, hown, hts0, hX, hbl, hlocks, hgv⟩ := id C0
  have hts : ∀ w ∈ wsL_law, w.before #[Value.ref b] s = true := fun w h => hts0 w (wsL_law_in w h)
  have hown : s.vm.findClass RL = some m.cls := hown
  have hA : ∀ q, s.heap.size ≤ q → lA s q := fun _ h => h
  have hbA : ¬ lA s b := Nat.not_le.mpr hbl
  refine lv_aload_n hx hb dL_law_1286 rfl (lv_at hl 1 rfl) ?_
  refine l_ld (k := 1) (v := xs 1) hx hb hX hbl hbA hw.2.2 (lv_at hl 0 rfl) (lv_at hl 4 rfl) rfl (by decide) dL_law_1287 dL_law_1288 dL_law_1290 (by decide) dL_law_1291 dL_law_1292 ?_
  refine lv_aload_n hx hb dL_law_1293 rfl (lv_at hl 3 rfl) ?_
  refine lh_x (As := [.ref (a 0), .int (xs 1), .ref o]) ⟨hx, hb, hml, hown, hts⟩ (zL_tide_x1 l hst D a cs f_new o cJ fl (lW_so hw) (xs 1) h1 _) (vx_cwSW 3 hts gL_law_L_tide rfl rfl rfl (by decide +kernel) ⟨Nat.le_of_ble_eq_true rfl, Nat.le_of_ble_eq_true rfl⟩) hm hw rfl hl.1 dL_law_1294 ⟨Nat.le_of_ble_eq_true rfl, Nat.le_of_ble_eq_true rfl⟩ (fun H locs hw => ?_)
  refine lv_istore (lv' := [(5, .int 1), (0, .ref b), (1, .ref (a 0)), (2, .ref (a' 10)), (3, .ref o), (4, .int 0)]) hx hb dL_law_1297 hl (by decide) rfl (fun ls hl => ?_)
  refine lv_aload_n hx hb dL_law_1299 rfl (lv_at hl 3 rfl) ?_
  refine l_ld (k := 1) (v := xs 1) hx hb hX hbl hbA hw.2.2 (lv_at hl 1 rfl) (lv_at hl 5 rfl) rfl (by decide) dL_law_1300 dL_law_1301 dL_law_1303 (by decide) dL_law_1304 dL_law_1305 ?_
  refine mc_i (mr_V (i := 10) (As := [.int (xs 1)]) (rest := []) ⟨hx, hb, hml, hown, hts⟩ (zX6_tide_1 l D a' cs' 12 (by omega) m_row0 (xs 1) hy _) (cwV 1 hts gL_law_X6_tide rfl rfl rfl (by decide +kernel) ⟨Nat.le_of_ble_eq_true rfl, Nat.le_of_ble_eq_true rfl⟩) hm.2.1 hm.2.2.2.2.1 hw (by omega) mE_o kcX6 rfl hl.1 (Nat.le_of_ble_eq_true rfl) dL_law_1306 ⟨Nat.le_of_ble_eq_true rfl, Nat.le_of_ble_eq_true rfl⟩) hw hA (fun H locs hw => ?_)
  refine lv_topi (fun v6 ev6 => ?_)
  refine lv_istore (lv' := [(6, .int v6), (5, .int 1), (0, .ref b), (1, .ref (a 0)), (2, .ref (a' 10)), (3, .ref o), (4, .int 0)]) hx hb dL_law_1309 hl (by decide) rfl (fun ls hl => ?_)
  refine lv_aload_n hx hb dL_law_1311 rfl (lv_at hl 4 rfl) ?_
  refine mc_i (mr_V (i := 10) (As := []) (rest := []) ⟨hx, hb, hml, hown, hts⟩ (zX6_thrown l D a' cs' 12 (by omega) _ _) (cwV 0 hts gL_law_X6_thrown rfl rfl rfl (by decide +kernel) ⟨Nat.le_of_ble_eq_true rfl, Nat.le_of_ble_eq_true rfl⟩) hm.2.1 hm.2.2.2.2.1 hw (by omega) mE_o kcX6 rfl hl.1 (Nat.le_of_ble_eq_true rfl) dL_law_1312 ⟨Nat.le_of_ble_eq_true rfl, Nat.le_of_ble_eq_true rfl⟩) hw hA (fun H locs hw => ?_)
  refine w_top0 (v := 1) (rfl) ?_
  refine lv_iload hx hb dL_law_1315 (lv_at hl 1 rfl) ?_
  refine lv_icmp_eq (tgt := 1322) hx hb dL_law_1317 (by decide) (fun _ => ?_) (fun c1 => absurd rfl c1)
  refine lv_iload hx hb dL_law_1322 (lv_at hl 1 rfl) ?_
  refine lv_if_ne (tgt := 1339) hx hb dL_law_1324 (by decide) (fun _ => ?_) (fun c1 => absurd c1 (by decide))
  refine lv_goto (tgt := 1793) hx hb dL_law_1339 (by decide) ?_
  refine W.widen (k := 600002) (n := 7302232) (Nat.le_of_ble_eq_true rfl) (Nat.le_of_ble_eq_true rfl) ?_
  exact l_fin C0 hw.2.2 (lv_sub hl [2, 6] rfl)
set_option maxHeartbeats 4000000 in
set_option maxRecDepth 100000 in
theorem ll_tide_2 {p : Program} {e : Env} {s : State} {m : MethodId} {below : List Frame} {meth : Method} {c : Code} {l : Launch} (hst : l.stackTraces = false) {b : Nat} {xs : Nat → Int32} (C0 : lw_At p s m meth c b 5 xs) {D : va_G} {a : Nat → Nat} {cs : Nat → ClassId} {a' : Nat → Nat} {cs' : Nat → ClassId} {o : Nat} {cJ : ClassId} {fl : Nat → Int64} (hm : lM D cs cs' cJ s) {H : Heap} {locs : List Loc} (hw : lW D a cs a' cs' o cJ fl s H locs) {ls : Array Slot} (hl : lv_has ls 9 [(0, .ref b), (1, .ref (a 0)), (2, .ref (a' 10)), (3, .ref o), (4, .int 0)]) (h1 : ¬ xs 1 < 0) (h2 : ¬ xs 1 ≤ 9999) (hy : g_X6_isIn (xs 1) 0 9999 = 0) : W p l e room_1 s m #[Value.ref b] below meth c H locs 47 402 (lw_Z below #[Value.ref b] s) (F0 m 1286 ls []) := by
  obtain ⟨hx, hb, hr, hml, hown, hts0, hX, hbl, hlocks, hgv⟩ := id C0
  have hts : ∀ w ∈ wsL_law, w.before #[Value.ref b] s = true := fun w h => hts0 w (wsL_law_in w h)
  have hown : s.vm.findClass RL = some m.cls := hown
  have hA : ∀ q, s.heap.size ≤ q → lA s q := fun _ h => h
  have hbA : ¬ lA s b := Nat.not_le.mpr hbl
  refine lv_aload_n hx hb dL_law_1286 rfl (lv_at hl 1 rfl) ?_
  refine l_ld (k := 1) (v := xs 1) hx hb hX hbl hbA hw.2.2 (lv_at hl 0 rfl) (lv_at hl 4 rfl) rfl (by decide) dL_law_1287 dL_law_1288 dL_law_1290 (by decide) dL_law_1291 dL_law_1292 ?_
  refine lv_aload_n hx hb dL_law_1293 rfl (lv_at hl 3 rfl) ?_
  refine lh_x (As := [.ref (a 0), .int (xs 1), .ref o]) ⟨hx, hb, hml, hown, hts⟩ (zL_tide_x2 l hst D a cs f_new o cJ fl (lW_so hw) (xs 1) h1 h2 _) (vx_cwSW 3 hts gL_law_L_tide rfl rfl rfl (by decide +kernel) ⟨Nat.le_of_ble_eq_true rfl, Nat.le_of_ble_eq_true rfl⟩) hm hw rfl hl.1 dL_law_1294 ⟨Nat.le_of_ble_eq_true rfl, Nat.le_of_ble_eq_true rfl⟩ (fun H locs hw => ?_)
  refine lv_istore (lv' := [(5, .int 1), (0, .ref b), (1, .ref (a 0)), (2, .ref (a' 10)), (3, .ref o), (4, .int 0)]) hx hb dL_law_1297 hl (by decide) rfl (fun ls hl => ?_)
  refine lv_aload_n hx hb dL_law_1299 rfl (lv_at hl 3 rfl) ?_
  refine l_ld (k := 1) (v := xs 1) hx hb hX hbl hbA hw.2.2 (lv_at hl 1 rfl) (lv_at hl 5 rfl) rfl (by decide) dL_law_1300 dL_law_1301 dL_law_1303 (by decide) dL_law_1304 dL_law_1305 ?_
  refine mc_i (mr_V (i := 10) (As := [.int (xs 1)]) (rest := []) ⟨hx, hb, hml, hown, hts⟩ (zX6_tide_1 l D a' cs' 12 (by omega) m_row0 (xs 1) hy _) (cwV 1 hts gL_law_X6_tide rfl rfl rfl (by decide +kernel) ⟨Nat.le_of_ble_eq_true rfl, Nat.le_of_ble_eq_true rfl⟩) hm.2.1 hm.2.2.2.2.1 hw (by omega) mE_o kcX6 rfl hl.1 (Nat.le_of_ble_eq_true rfl) dL_law_1306 ⟨Nat.le_of_ble_eq_true rfl, Nat.le_of_ble_eq_true rfl⟩) hw hA (fun H locs hw => ?_)
  refine lv_topi (fun v6 ev6 => ?_)
  refine lv_istore (lv' := [(6, .int v6), (5, .int 1), (0, .ref b), (1, .ref (a 0)), (2, .ref (a' 10)), (3, .ref o), (4, .int 0)]) hx hb dL_law_1309 hl (by decide) rfl (fun ls hl => ?_)
  refine lv_aload_n hx hb dL_law_1311 rfl (lv_at hl 4 rfl) ?_
  refine mc_i (mr_V (i := 10) (As := []) (rest := []) ⟨hx, hb, hml, hown, hts⟩ (zX6_thrown l D a' cs' 12 (by omega) _ _) (cwV 0 hts gL_law_X6_thrown rfl rfl rfl (by decide +kernel) ⟨Nat.le_of_ble_eq_true rfl, Nat.le_of_ble_eq_true rfl⟩) hm.2.1 hm.2.2.2.2.1 hw (by omega) mE_o kcX6 rfl hl.1 (Nat.le_of_ble_eq_true rfl) dL_law_1312 ⟨Nat.le_of_ble_eq_true rfl, Nat.le_of_ble_eq_true rfl⟩) hw hA (fun H locs hw => ?_)
  refine w_top0 (v := 1) (rfl) ?_
  refine lv_iload hx hb dL_law_1315 (lv_at hl 1 rfl) ?_
  refine lv_icmp_eq (tgt := 1322) hx hb dL_law_1317 (by decide) (fun _ => ?_) (fun c1 => absurd rfl c1)
  refine lv_iload hx hb dL_law_1322 (lv_at hl 1 rfl) ?_
  refine lv_if_ne (tgt := 1339) hx hb dL_law_1324 (by decide) (fun _ => ?_) (fun c1 => absurd c1 (by decide))
  refine lv_goto (tgt := 1793) hx hb dL_law_1339 (by decide) ?_
  refine W.widen (k := 600002) (n := 7302232) (Nat.le_of_ble_eq_true rfl) (Nat.le_of_ble_eq_true rfl) ?_
  exact l_fin C0 hw.2.2 (lv_sub hl [2, 6] rfl)
set_option maxHeartbeats 4000000 in
set_option maxRecDepth 100000 in
theorem ll_tide_3 {p : Program} {e : Env} {s : State} {m : MethodId} {below : List Frame} {meth : Method} {c : Code} {l : Launch} (hst : l.stackTraces = false) {b : Nat} {xs : Nat → Int32} (C0 : lw_At p s m meth c b 5 xs) {D : va_G} {a : Nat → Nat} {cs : Nat → ClassId} {a' : Nat → Nat} {cs' : Nat → ClassId} {o : Nat} {cJ : ClassId} {fl : Nat → Int64} (hm : lM D cs cs' cJ s) {H : Heap} {locs : List Loc} (hw : lW D a cs a' cs' o cJ fl s H locs) {ls : Array Slot} (hl : lv_has ls 9 [(0, .ref b), (1, .ref (a 0)), (2, .ref (a' 10)), (3, .ref o), (4, .int 0)]) (h1 : ¬ xs 1 < 0) (h2 : xs 1 ≤ 9999) (hy : g_X6_isIn (xs 1) 0 9999 = 1) : W p l e room_1 s m #[Value.ref b] below meth c H locs 47 402 (lw_Z below #[Value.ref b] s) (F0 m 1286 ls []) := by
  obtain ⟨hx, hb, hr, hml, hown, hts0, hX, hbl, hlocks, hgv⟩ := id C0
  have hts : ∀ w ∈ wsL_law, w.before #[Value.ref b] s = true := fun w h => hts0 w (wsL_law_in w h)
  have hown : s.vm.findClass RL = some m.cls := hown
  have hA : ∀ q, s.heap.size ≤ q → lA s q := fun _ h => h
  have hbA : ¬ lA s b := Nat.not_le.mpr hbl
  refine lv_aload_n hx hb dL_law_1286 rfl (lv_at hl 1 rfl) ?_
  refine l_ld (k := 1) (v := xs 1) hx hb hX hbl hbA hw.2.2 (lv_at hl 0 rfl) (lv_at hl 4 rfl) rfl (by decide) dL_law_1287 dL_law_1288 dL_law_1290 (by decide) dL_law_1291 dL_law_1292 ?_
  refine lv_aload_n hx hb dL_law_1293 rfl (lv_at hl 3 rfl) ?_
  refine lh_n (As := [.ref (a 0), .int (xs 1), .ref o]) ⟨hx, hb, hml, hown, hts⟩ (zL_tide_n l hst D a cs f_new o cJ fl (lW_so hw) (xs 1) h1 h2 _) (vx_cwSW 3 hts gL_law_L_tide rfl rfl rfl (by decide +kernel) ⟨Nat.le_of_ble_eq_true rfl, Nat.le_of_ble_eq_true rfl⟩) hm hw rfl hl.1 dL_law_1294 ⟨Nat.le_of_ble_eq_true rfl, Nat.le_of_ble_eq_true rfl⟩ (fun u H locs hu hw => ?_)
  refine lv_istore (lv' := [(5, .int 0), (0, .ref b), (1, .ref (a 0)), (2, .ref (a' 10)), (3, .ref o), (4, .int 0)]) hx hb dL_law_1297 hl (by decide) rfl (fun ls hl => ?_)
  refine lv_aload_n hx hb dL_law_1299 rfl (lv_at hl 3 rfl) ?_
  refine l_ld (k := 1) (v := xs 1) hx hb hX hbl hbA hw.2.2 (lv_at hl 1 rfl) (lv_at hl 5 rfl) rfl (by decide) dL_law_1300 dL_law_1301 dL_law_1303 (by decide) dL_law_1304 dL_law_1305 ?_
  refine mc_i (mr_V (i := 10) (As := [.int (xs 1)]) (rest := []) ⟨hx, hb, hml, hown, hts⟩ (zX6_tide_2 l D a' cs' 12 (by omega) m_row0 (xs 1) hy _) (cwV 1 hts gL_law_X6_tide rfl rfl rfl (by decide +kernel) ⟨Nat.le_of_ble_eq_true rfl, Nat.le_of_ble_eq_true rfl⟩) hm.2.1 hm.2.2.2.2.1 hw (by omega) mE_o kcX6 rfl hl.1 (Nat.le_of_ble_eq_true rfl) dL_law_1306 ⟨Nat.le_of_ble_eq_true rfl, Nat.le_of_ble_eq_true rfl⟩) hw hA (fun H locs hw => ?_)
  refine lv_topi (fun v6 ev6 => ?_)
  refine lv_istore (lv' := [(6, .int v6), (5, .int 0), (0, .ref b), (1, .ref (a 0)), (2, .ref (a' 10)), (3, .ref o), (4, .int 0)]) hx hb dL_law_1309 hl (by decide) rfl (fun ls hl => ?_)
  refine lv_aload_n hx hb dL_law_1311 rfl (lv_at hl 4 rfl) ?_
  refine mc_i (mr_V (i := 10) (As := []) (rest := []) ⟨hx, hb, hml, hown, hts⟩ (zX6_thrown l D a' cs' 12 (by omega) _ _) (cwV 0 hts gL_law_X6_thrown rfl rfl rfl (by decide +kernel) ⟨Nat.le_of_ble_eq_true rfl, Nat.le_of_ble_eq_true rfl⟩) hm.2.1 hm.2.2.2.2.1 hw (by omega) mE_o kcX6 rfl hl.1 (Nat.le_of_ble_eq_true rfl) dL_law_1312 ⟨Nat.le_of_ble_eq_true rfl, Nat.le_of_ble_eq_true rfl⟩) hw hA (fun H locs hw => ?_)
  refine w_top0 (v := 0) (rfl) ?_
  refine lv_iload hx hb dL_law_1315 (lv_at hl 1 rfl) ?_
  refine lv_icmp_eq (tgt := 1322) hx hb dL_law_1317 (by decide) (fun _ => ?_) (fun c1 => absurd rfl c1)
  refine lv_iload hx hb dL_law_1322 (lv_at hl 1 rfl) ?_
  refine lv_if_ne (tgt := 1339) hx hb dL_law_1324 (by decide) (fun c1 => absurd rfl c1) (fun _ => ?_)
  refine lv_aload_n hx hb dL_law_1327 rfl (lv_at hl 5 rfl) ?_
  refine lv_iconst (v := 0) hx hb dL_law_1328 (by decide) ?_
  refine va_lald hx hb hm.2.2.1 hw.1 12 0 (by rw [show (12 : Nat) = 12 + 0 from rfl, mX_x]; rfl) rfl (vp_in_nI (n := 0) (by decide) (by decide)) dL_law_1329 ?_
  refine lv_iload hx hb dL_law_1330 (lv_at hl 0 rfl) ?_
  refine lv_i2l hx hb dL_law_1332 rfl ?_
  refine W.lcmp hx hb dL_law_1333 ?_
  refine lv_if_eq (tgt := 1339) hx hb dL_law_1334 (by decide) (fun _ => ?_) (fun c1 => absurd ((lg_cmp_eq _ _).mpr (hu.trans (congrArg Int32.toInt64 (((rfl : f_X3_tideAt (xs 1) = g_X6_tideOf (xs 1))).trans ev6.symm)))) c1)
  refine lv_goto (tgt := 1793) hx hb dL_law_1339 (by decide) ?_
  refine W.widen (k := 600002) (n := 7302232) (Nat.le_of_ble_eq_true rfl) (Nat.le_of_ble_eq_true rfl) ?_
  exact l_fin C0 hw.2.2 (lv_sub hl [2, 6] rfl)
set_option maxHeartbeats 4000000 in
set_option maxRecDepth 100000 in
theorem ll_many_1 {p : Program} {e : Env} {s : State} {m : MethodId} {below : List Frame} {meth : Method} {c : Code} {l : Launch} (hst : l.stackTraces = false) {b : Nat} {xs : Nat → Int32} (C0 : lw_At p s m meth c b 5 xs) {D : va_G} {a : Nat → Nat} {cs : Nat → ClassId} {a' : Nat → Nat} {cs' : Nat → ClassId} {o : Nat} {cJ : ClassId} {fl : Nat → Int64} (hm : lM D cs cs' cJ s) {H : Heap} {locs : List Loc} (hw : lW D a cs a' cs' o cJ fl s H locs) {ls : Array Slot} (hl : lv_has ls 9 [(0, .ref b), (1, .ref (a 0)), (2, .ref (a' 10)), (3, .ref o), (4, .int 0)]) (h1 : (xs 1).toInt < 0 ∨ 17 < (xs 1).toInt) (hy : g_X6_isIn (xs 1) 0 17 = 0) : W p l e room_1 s m #[Value.ref b] below meth c H locs 47 402 (lw_Z below #[Value.ref b] s) (F0 m 1342 ls []) := by
  obtain ⟨hx, hb, hr, hml, hown, hts0, hX, hbl, hlocks, hgv⟩ := id C0
  have hts : ∀ w ∈ wsL_law, w.before #[Value.ref b] s = true := fun w h => hts0 w (wsL_law_in w h)
  have hown : s.vm.findClass RL = some m.cls := hown
  have hA : ∀ q, s.heap.size ≤ q → lA s q := fun _ h => h
  have hbA : ¬ lA s b := Nat.not_le.mpr hbl
  refine lv_aload_n hx hb dL_law_1342 rfl (lv_at hl 1 rfl) ?_
  refine l_ld (k := 1) (v := xs 1) hx hb hX hbl hbA hw.2.2 (lv_at hl 0 rfl) (lv_at hl 4 rfl) rfl (by decide) dL_law_1343 dL_law_1344 dL_law_1346 (by decide) dL_law_1347 dL_law_1348 ?_
  refine lv_aload_n hx hb dL_law_1349 rfl (lv_at hl 3 rfl) ?_
  refine lh_x (As := [.ref (a 0), .int (xs 1), .ref o]) ⟨hx, hb, hml, hown, hts⟩ (zL_many_x1 l hst D a cs f_new o cJ fl (lW_so hw) (xs 1) h1 _) (vx_cwSW 3 hts gL_law_L_many rfl rfl rfl (by decide +kernel) ⟨Nat.le_of_ble_eq_true rfl, Nat.le_of_ble_eq_true rfl⟩) hm hw rfl hl.1 dL_law_1350 ⟨Nat.le_of_ble_eq_true rfl, Nat.le_of_ble_eq_true rfl⟩ (fun H locs hw => ?_)
  refine lv_istore (lv' := [(5, .int 1), (0, .ref b), (1, .ref (a 0)), (2, .ref (a' 10)), (3, .ref o), (4, .int 0)]) hx hb dL_law_1353 hl (by decide) rfl (fun ls hl => ?_)
  refine lv_aload_n hx hb dL_law_1355 rfl (lv_at hl 3 rfl) ?_
  refine l_ld (k := 1) (v := xs 1) hx hb hX hbl hbA hw.2.2 (lv_at hl 1 rfl) (lv_at hl 5 rfl) rfl (by decide) dL_law_1356 dL_law_1357 dL_law_1359 (by decide) dL_law_1360 dL_law_1361 ?_
  refine mc_i (mr_V (i := 10) (As := [.int (xs 1)]) (rest := []) ⟨hx, hb, hml, hown, hts⟩ (zX6_many_1 l D a' cs' 12 (by omega) m_row0 (xs 1) hy _) (cwV 1 hts gL_law_X6_many rfl rfl rfl (by decide +kernel) ⟨Nat.le_of_ble_eq_true rfl, Nat.le_of_ble_eq_true rfl⟩) hm.2.1 hm.2.2.2.2.1 hw (by omega) mE_o kcX6 rfl hl.1 (Nat.le_of_ble_eq_true rfl) dL_law_1362 ⟨Nat.le_of_ble_eq_true rfl, Nat.le_of_ble_eq_true rfl⟩) hw hA (fun H locs hw => ?_)
  refine lv_topi (fun v6 ev6 => ?_)
  refine lv_istore (lv' := [(6, .int v6), (5, .int 1), (0, .ref b), (1, .ref (a 0)), (2, .ref (a' 10)), (3, .ref o), (4, .int 0)]) hx hb dL_law_1365 hl (by decide) rfl (fun ls hl => ?_)
  refine lv_aload_n hx hb dL_law_1367 rfl (lv_at hl 4 rfl) ?_
  refine mc_i (mr_V (i := 10) (As := []) (rest := []) ⟨hx, hb, hml, hown, hts⟩ (zX6_thrown l D a' cs' 12 (by omega) _ _) (cwV 0 hts gL_law_X6_thrown rfl rfl rfl (by decide +kernel) ⟨Nat.le_of_ble_eq_true rfl, Nat.le_of_ble_eq_true rfl⟩) hm.2.1 hm.2.2.2.2.1 hw (by omega) mE_o kcX6 rfl hl.1 (Nat.le_of_ble_eq_true rfl) dL_law_1368 ⟨Nat.le_of_ble_eq_true rfl, Nat.le_of_ble_eq_true rfl⟩) hw hA (fun H locs hw => ?_)
  refine w_top0 (v := 1) (rfl) ?_
  refine lv_iload hx hb dL_law_1371 (lv_at hl 1 rfl) ?_
  refine lv_icmp_eq (tgt := 1378) hx hb dL_law_1373 (by decide) (fun _ => ?_) (fun c1 => absurd rfl c1)
  refine lv_iload hx hb dL_law_1378 (lv_at hl 1 rfl) ?_
  refine lv_if_ne (tgt := 1395) hx hb dL_law_1380 (by decide) (fun _ => ?_) (fun c1 => absurd c1 (by decide))
  refine lv_goto (tgt := 1793) hx hb dL_law_1395 (by decide) ?_
  refine W.widen (k := 600002) (n := 7302232) (Nat.le_of_ble_eq_true rfl) (Nat.le_of_ble_eq_true rfl) ?_
  exact l_fin C0 hw.2.2 (lv_sub hl [2, 6] rfl)
set_option maxHeartbeats 4000000 in
set_option maxRecDepth 100000 in
theorem ll_many_2 {p : Program} {e : Env} {s : State} {m : MethodId} {below : List Frame} {meth : Method} {c : Code} {l : Launch} (hst : l.stackTraces = false) {b : Nat} {xs : Nat → Int32} (C0 : lw_At p s m meth c b 5 xs) {D : va_G} {a : Nat → Nat} {cs : Nat → ClassId} {a' : Nat → Nat} {cs' : Nat → ClassId} {o : Nat} {cJ : ClassId} {fl : Nat → Int64} (hm : lM D cs cs' cJ s) {H : Heap} {locs : List Loc} (hw : lW D a cs a' cs' o cJ fl s H locs) {ls : Array Slot} (hl : lv_has ls 9 [(0, .ref b), (1, .ref (a 0)), (2, .ref (a' 10)), (3, .ref o), (4, .int 0)]) (w : Nat) (hw18 : w < 18) (hk1 : xs 1 = nI w) (hy : g_X6_isIn (nI w) 0 17 = 1) : W p l e room_1 s m #[Value.ref b] below meth c H locs 47 402 (lw_Z below #[Value.ref b] s) (F0 m 1342 ls []) := by
  obtain ⟨hx, hb, hr, hml, hown, hts0, hX, hbl, hlocks, hgv⟩ := id C0
  have hts : ∀ w ∈ wsL_law, w.before #[Value.ref b] s = true := fun w h => hts0 w (wsL_law_in w h)
  have hown : s.vm.findClass RL = some m.cls := hown
  have hA : ∀ q, s.heap.size ≤ q → lA s q := fun _ h => h
  have hbA : ¬ lA s b := Nat.not_le.mpr hbl
  refine lv_aload_n hx hb dL_law_1342 rfl (lv_at hl 1 rfl) ?_
  refine l_ld (k := 1) (v := nI w) hx hb hX hbl hbA hw.2.2 (lv_at hl 0 rfl) (lv_at hl 4 rfl) hk1 (by decide) dL_law_1343 dL_law_1344 dL_law_1346 (by decide) dL_law_1347 dL_law_1348 ?_
  refine lv_aload_n hx hb dL_law_1349 rfl (lv_at hl 3 rfl) ?_
  refine lh_n (As := [.ref (a 0), .int (nI w), .ref o]) ⟨hx, hb, hml, hown, hts⟩ (zL_many_n l hst D a cs f_new o cJ fl (lW_so hw) 0 (by decide) rfl w hw18 _) (vx_cwSW 3 hts gL_law_L_many rfl rfl rfl (by decide +kernel) ⟨Nat.le_of_ble_eq_true rfl, Nat.le_of_ble_eq_true rfl⟩) hm hw rfl hl.1 dL_law_1350 ⟨Nat.le_of_ble_eq_true rfl, Nat.le_of_ble_eq_true rfl⟩ (fun u H locs hu hw => ?_)
  refine lv_istore (lv' := [(5, .int 0), (0, .ref b), (1, .ref (a 0)), (2, .ref (a' 10)), (3, .ref o), (4, .int 0)]) hx hb dL_law_1353 hl (by decide) rfl (fun ls hl => ?_)
  refine lv_aload_n hx hb dL_law_1355 rfl (lv_at hl 3 rfl) ?_
  refine l_ld (k := 1) (v := nI w) hx hb hX hbl hbA hw.2.2 (lv_at hl 1 rfl) (lv_at hl 5 rfl) hk1 (by decide) dL_law_1356 dL_law_1357 dL_law_1359 (by decide) dL_law_1360 dL_law_1361 ?_
  refine mc_i (mr_V (i := 10) (As := [.int (nI w)]) (rest := []) ⟨hx, hb, hml, hown, hts⟩ (zX6_many_2 l D a' cs' 12 (by omega) m_row0 fr0 w hw18 hy _) (cwV 1 hts gL_law_X6_many rfl rfl rfl (by decide +kernel) ⟨Nat.le_of_ble_eq_true rfl, Nat.le_of_ble_eq_true rfl⟩) hm.2.1 hm.2.2.2.2.1 hw (by omega) mE_o kcX6 rfl hl.1 (Nat.le_of_ble_eq_true rfl) dL_law_1362 ⟨Nat.le_of_ble_eq_true rfl, Nat.le_of_ble_eq_true rfl⟩) hw hA (fun H locs hw => ?_)
  refine lv_topi (fun v6 ev6 => ?_)
  refine lv_istore (lv' := [(6, .int v6), (5, .int 0), (0, .ref b), (1, .ref (a 0)), (2, .ref (a' 10)), (3, .ref o), (4, .int 0)]) hx hb dL_law_1365 hl (by decide) rfl (fun ls hl => ?_)
  refine lv_aload_n hx hb dL_law_1367 rfl (lv_at hl 4 rfl) ?_
  refine mc_i (mr_V (i := 10) (As := []) (rest := []) ⟨hx, hb, hml, hown, hts⟩ (zX6_thrown l D a' cs' 12 (by omega) _ _) (cwV 0 hts gL_law_X6_thrown rfl rfl rfl (by decide +kernel) ⟨Nat.le_of_ble_eq_true rfl, Nat.le_of_ble_eq_true rfl⟩) hm.2.1 hm.2.2.2.2.1 hw (by omega) mE_o kcX6 rfl hl.1 (Nat.le_of_ble_eq_true rfl) dL_law_1368 ⟨Nat.le_of_ble_eq_true rfl, Nat.le_of_ble_eq_true rfl⟩) hw hA (fun H locs hw => ?_)
  refine w_top0 (v := 0) (rfl) ?_
  refine lv_iload hx hb dL_law_1371 (lv_at hl 1 rfl) ?_
  refine lv_icmp_eq (tgt := 1378) hx hb dL_law_1373 (by decide) (fun _ => ?_) (fun c1 => absurd rfl c1)
  refine lv_iload hx hb dL_law_1378 (lv_at hl 1 rfl) ?_
  refine lv_if_ne (tgt := 1395) hx hb dL_law_1380 (by decide) (fun c1 => absurd rfl c1) (fun _ => ?_)
  refine lv_aload_n hx hb dL_law_1383 rfl (lv_at hl 5 rfl) ?_
  refine lv_iconst (v := 0) hx hb dL_law_1384 (by decide) ?_
  refine va_lald hx hb hm.2.2.1 hw.1 12 0 (by rw [show (12 : Nat) = 12 + 0 from rfl, mX_x]; rfl) rfl (vp_in_nI (n := 0) (by decide) (by decide)) dL_law_1385 ?_
  refine lv_iload hx hb dL_law_1386 (lv_at hl 0 rfl) ?_
  refine lv_i2l hx hb dL_law_1388 rfl ?_
  refine W.lcmp hx hb dL_law_1389 ?_
  refine lv_if_eq (tgt := 1395) hx hb dL_law_1390 (by decide) (fun _ => ?_) (fun c1 => absurd ((lg_cmp_eq _ _).mpr (hu.trans (congrArg Int32.toInt64 (((q_many cF_new : f_X3_many f_new 0 w = 0)).trans ev6.symm)))) c1)
  refine lv_goto (tgt := 1793) hx hb dL_law_1395 (by decide) ?_
  refine W.widen (k := 600002) (n := 7302232) (Nat.le_of_ble_eq_true rfl) (Nat.le_of_ble_eq_true rfl) ?_
  exact l_fin C0 hw.2.2 (lv_sub hl [2, 6] rfl)
set_option maxHeartbeats 4000000 in
set_option maxRecDepth 100000 in
theorem ll_crustIn_1 {p : Program} {e : Env} {s : State} {m : MethodId} {below : List Frame} {meth : Method} {c : Code} {l : Launch} (hst : l.stackTraces = false) {b : Nat} {xs : Nat → Int32} (C0 : lw_At p s m meth c b 5 xs) {D : va_G} {a : Nat → Nat} {cs : Nat → ClassId} {a' : Nat → Nat} {cs' : Nat → ClassId} {o : Nat} {cJ : ClassId} {fl : Nat → Int64} (hm : lM D cs cs' cJ s) {H : Heap} {locs : List Loc} (hw : lW D a cs a' cs' o cJ fl s H locs) {ls : Array Slot} (hl : lv_has ls 9 [(0, .ref b), (1, .ref (a 0)), (2, .ref (a' 10)), (3, .ref o), (4, .int 0)]) (hp : xs 1 < 5 ∨ ¬ xs 1 < 5 ∧ ¬ xs 1 < 8) (hp2 : g_X6_isNoPan (xs 1) = 1) : W p l e room_1 s m #[Value.ref b] below meth c H locs 47 402 (lw_Z below #[Value.ref b] s) (F0 m 1439 ls []) := by
  obtain ⟨hx, hb, hr, hml, hown, hts0, hX, hbl, hlocks, hgv⟩ := id C0
  have hts : ∀ w ∈ wsL_law, w.before #[Value.ref b] s = true := fun w h => hts0 w (wsL_law_in w h)
  have hown : s.vm.findClass RL = some m.cls := hown
  have hA : ∀ q, s.heap.size ≤ q → lA s q := fun _ h => h
  have hbA : ¬ lA s b := Nat.not_le.mpr hbl
  refine lv_aload_n hx hb dL_law_1439 rfl (lv_at hl 1 rfl) ?_
  refine l_ld (k := 1) (v := xs 1) hx hb hX hbl hbA hw.2.2 (lv_at hl 0 rfl) (lv_at hl 4 rfl) rfl (by decide) dL_law_1440 dL_law_1441 dL_law_1443 (by decide) dL_law_1444 dL_law_1445 ?_
  refine l_ld (k := 2) (v := xs 2) hx hb hX hbl hbA hw.2.2 (lv_at hl 0 rfl) (lv_at hl 4 rfl) rfl (by decide) dL_law_1446 dL_law_1447 dL_law_1449 (by decide) dL_law_1450 dL_law_1451 ?_
  refine l_ld (k := 3) (v := xs 3) hx hb hX hbl hbA hw.2.2 (lv_at hl 0 rfl) (lv_at hl 4 rfl) rfl (by decide) dL_law_1452 dL_law_1453 dL_law_1455 (by decide) dL_law_1456 dL_law_1457 ?_
  refine lv_aload_n hx hb dL_law_1458 rfl (lv_at hl 3 rfl) ?_
  refine lh_x (As := [.ref (a 0), .int (xs 1), .int (xs 2), .int (xs 3), .ref o]) ⟨hx, hb, hml, hown, hts⟩ (zL_crustIn_x1 l hst D a cs f_new o cJ fl (lW_so hw) (xs 1) hp (xs 2) (xs 3) _) (vx_cwSW 5 hts gL_law_L_crustIn rfl rfl rfl (by decide +kernel) ⟨Nat.le_of_ble_eq_true rfl, Nat.le_of_ble_eq_true rfl⟩) hm hw rfl hl.1 dL_law_1459 ⟨Nat.le_of_ble_eq_true rfl, Nat.le_of_ble_eq_true rfl⟩ (fun H locs hw => ?_)
  refine lv_istore (lv' := [(5, .int 1), (0, .ref b), (1, .ref (a 0)), (2, .ref (a' 10)), (3, .ref o), (4, .int 0)]) hx hb dL_law_1462 hl (by decide) rfl (fun ls hl => ?_)
  refine lv_aload_n hx hb dL_law_1464 rfl (lv_at hl 3 rfl) ?_
  refine l_ld (k := 1) (v := xs 1) hx hb hX hbl hbA hw.2.2 (lv_at hl 1 rfl) (lv_at hl 5 rfl) rfl (by decide) dL_law_1465 dL_law_1466 dL_law_1468 (by decide) dL_law_1469 dL_law_1470 ?_
  refine l_ld (k := 2) (v := xs 2) hx hb hX hbl hbA hw.2.2 (lv_at hl 1 rfl) (lv_at hl 5 rfl) rfl (by decide) dL_law_1471 dL_law_1472 dL_law_1474 (by decide) dL_law_1475 dL_law_1476 ?_
  refine l_ld (k := 3) (v := xs 3) hx hb hX hbl hbA hw.2.2 (lv_at hl 1 rfl) (lv_at hl 5 rfl) rfl (by decide) dL_law_1477 dL_law_1478 dL_law_1480 (by decide) dL_law_1481 dL_law_1482 ?_
  refine mc_i (mr_V (i := 10) (As := [.int (xs 1), .int (xs 2), .int (xs 3)]) (rest := []) ⟨hx, hb, hml, hown, hts⟩ (zX6_crustIn_1 l D a' cs' 12 (by omega) m_row0 (xs 1) (xs 2) (xs 3) hp2 _) (cwV 3 hts gL_law_X6_crustIn rfl rfl rfl (by decide +kernel) ⟨Nat.le_of_ble_eq_true rfl, Nat.le_of_ble_eq_true rfl⟩) hm.2.1 hm.2.2.2.2.1 hw (by omega) mE_o kcX6 rfl hl.1 (Nat.le_of_ble_eq_true rfl) dL_law_1483 ⟨Nat.le_of_ble_eq_true rfl, Nat.le_of_ble_eq_true rfl⟩) hw hA (fun H locs hw => ?_)
  refine lv_topi (fun v6 ev6 => ?_)
  refine lv_istore (lv' := [(6, .int v6), (5, .int 1), (0, .ref b), (1, .ref (a 0)), (2, .ref (a' 10)), (3, .ref o), (4, .int 0)]) hx hb dL_law_1486 hl (by decide) rfl (fun ls hl => ?_)
  refine lv_aload_n hx hb dL_law_1488 rfl (lv_at hl 4 rfl) ?_
  refine mc_i (mr_V (i := 10) (As := []) (rest := []) ⟨hx, hb, hml, hown, hts⟩ (zX6_thrown l D a' cs' 12 (by omega) _ _) (cwV 0 hts gL_law_X6_thrown rfl rfl rfl (by decide +kernel) ⟨Nat.le_of_ble_eq_true rfl, Nat.le_of_ble_eq_true rfl⟩) hm.2.1 hm.2.2.2.2.1 hw (by omega) mE_o kcX6 rfl hl.1 (Nat.le_of_ble_eq_true rfl) dL_law_1489 ⟨Nat.le_of_ble_eq_true rfl, Nat.le_of_ble_eq_true rfl⟩) hw hA (fun H locs hw => ?_)
  refine w_top0 (v := 1) (rfl) ?_
  refine lv_iload hx hb dL_law_1492 (lv_at hl 1 rfl) ?_
  refine lv_icmp_eq (tgt := 1499) hx hb dL_law_1494 (by decide) (fun _ => ?_) (fun c1 => absurd rfl c1)
  refine lv_iload hx hb dL_law_1499 (lv_at hl 1 rfl) ?_
  refine lv_if_ne (tgt := 1516) hx hb dL_law_1501 (by decide) (fun _ => ?_) (fun c1 => absurd c1 (by decide))
  refine lv_goto (tgt := 1793) hx hb dL_law_1516 (by decide) ?_
  refine W.widen (k := 600002) (n := 7302232) (Nat.le_of_ble_eq_true rfl) (Nat.le_of_ble_eq_true rfl) ?_
  exact l_fin C0 hw.2.2 (lv_sub hl [2, 6] rfl)
set_option maxHeartbeats 4000000 in
set_option maxRecDepth 100000 in
theorem ll_crustIn_2 {p : Program} {e : Env} {s : State} {m : MethodId} {below : List Frame} {meth : Method} {c : Code} {l : Launch} (hst : l.stackTraces = false) {b : Nat} {xs : Nat → Int32} (C0 : lw_At p s m meth c b 5 xs) {D : va_G} {a : Nat → Nat} {cs : Nat → ClassId} {a' : Nat → Nat} {cs' : Nat → ClassId} {o : Nat} {cJ : ClassId} {fl : Nat → Int64} (hm : lM D cs cs' cJ s) {H : Heap} {locs : List Loc} (hw : lW D a cs a' cs' o cJ fl s H locs) {ls : Array Slot} (hl : lv_has ls 9 [(0, .ref b), (1, .ref (a 0)), (2, .ref (a' 10)), (3, .ref o), (4, .int 0)]) (q : Nat) (hq : q < 3) (hk1 : xs 1 = nI (5 + q)) (hp : xs 2 < 0 ∨ ¬ xs 2 < 0 ∧ ¬ xs 2 ≤ 9 ∨ ¬ xs 2 < 0 ∧ xs 2 ≤ 9 ∧ xs 3 < 0 ∨ ¬ xs 2 < 0 ∧ xs 2 ≤ 9 ∧ ¬ xs 3 < 0 ∧ ¬ xs 3 ≤ 9) (g1 : g_X6_isIn (xs 2) 0 9 = 0) : W p l e room_1 s m #[Value.ref b] below meth c H locs 47 402 (lw_Z below #[Value.ref b] s) (F0 m 1439 ls []) := by
  obtain ⟨hx, hb, hr, hml, hown, hts0, hX, hbl, hlocks, hgv⟩ := id C0
  have hts : ∀ w ∈ wsL_law, w.before #[Value.ref b] s = true := fun w h => hts0 w (wsL_law_in w h)
  have hown : s.vm.findClass RL = some m.cls := hown
  have hA : ∀ q, s.heap.size ≤ q → lA s q := fun _ h => h
  have hbA : ¬ lA s b := Nat.not_le.mpr hbl
  refine lv_aload_n hx hb dL_law_1439 rfl (lv_at hl 1 rfl) ?_
  refine l_ld (k := 1) (v := nI (5 + q)) hx hb hX hbl hbA hw.2.2 (lv_at hl 0 rfl) (lv_at hl 4 rfl) hk1 (by decide) dL_law_1440 dL_law_1441 dL_law_1443 (by decide) dL_law_1444 dL_law_1445 ?_
  refine l_ld (k := 2) (v := xs 2) hx hb hX hbl hbA hw.2.2 (lv_at hl 0 rfl) (lv_at hl 4 rfl) rfl (by decide) dL_law_1446 dL_law_1447 dL_law_1449 (by decide) dL_law_1450 dL_law_1451 ?_
  refine l_ld (k := 3) (v := xs 3) hx hb hX hbl hbA hw.2.2 (lv_at hl 0 rfl) (lv_at hl 4 rfl) rfl (by decide) dL_law_1452 dL_law_1453 dL_law_1455 (by decide) dL_law_1456 dL_law_1457 ?_
  refine lv_aload_n hx hb dL_law_1458 rfl (lv_at hl 3 rfl) ?_
  refine lh_x (As := [.ref (a 0), .int (nI (5 + q)), .int (xs 2), .int (xs 3), .ref o]) ⟨hx, hb, hml, hown, hts⟩ (zL_crustIn_x2 l hst D a cs f_new o cJ fl (lW_so hw) q hq (xs 2) (xs 3) hp _) (vx_cwSW 5 hts gL_law_L_crustIn rfl rfl rfl (by decide +kernel) ⟨Nat.le_of_ble_eq_true rfl, Nat.le_of_ble_eq_true rfl⟩) hm hw rfl hl.1 dL_law_1459 ⟨Nat.le_of_ble_eq_true rfl, Nat.le_of_ble_eq_true rfl⟩ (fun H locs hw => ?_)
  refine lv_istore (lv' := [(5, .int 2), (0, .ref b), (1, .ref (a 0)), (2, .ref (a' 10)), (3, .ref o), (4, .int 0)]) hx hb dL_law_1462 hl (by decide) rfl (fun ls hl => ?_)
  refine lv_aload_n hx hb dL_law_1464 rfl (lv_at hl 3 rfl) ?_
  refine l_ld (k := 1) (v := nI (5 + q)) hx hb hX hbl hbA hw.2.2 (lv_at hl 1 rfl) (lv_at hl 5 rfl) hk1 (by decide) dL_law_1465 dL_law_1466 dL_law_1468 (by decide) dL_law_1469 dL_law_1470 ?_
  refine l_ld (k := 2) (v := xs 2) hx hb hX hbl hbA hw.2.2 (lv_at hl 1 rfl) (lv_at hl 5 rfl) rfl (by decide) dL_law_1471 dL_law_1472 dL_law_1474 (by decide) dL_law_1475 dL_law_1476 ?_
  refine l_ld (k := 3) (v := xs 3) hx hb hX hbl hbA hw.2.2 (lv_at hl 1 rfl) (lv_at hl 5 rfl) rfl (by decide) dL_law_1477 dL_law_1478 dL_law_1480 (by decide) dL_law_1481 dL_law_1482 ?_
  refine mc_i (mr_V (i := 10) (As := [.int (nI (5 + q)), .int (xs 2), .int (xs 3)]) (rest := []) ⟨hx, hb, hml, hown, hts⟩ (zX6_crustIn_2 l D a' cs' 12 (by omega) m_row0 q hq (xs 2) (xs 3) g1 _) (cwV 3 hts gL_law_X6_crustIn rfl rfl rfl (by decide +kernel) ⟨Nat.le_of_ble_eq_true rfl, Nat.le_of_ble_eq_true rfl⟩) hm.2.1 hm.2.2.2.2.1 hw (by omega) mE_o kcX6 rfl hl.1 (Nat.le_of_ble_eq_true rfl) dL_law_1483 ⟨Nat.le_of_ble_eq_true rfl, Nat.le_of_ble_eq_true rfl⟩) hw hA (fun H locs hw => ?_)
  refine lv_topi (fun v6 ev6 => ?_)
  refine lv_istore (lv' := [(6, .int v6), (5, .int 2), (0, .ref b), (1, .ref (a 0)), (2, .ref (a' 10)), (3, .ref o), (4, .int 0)]) hx hb dL_law_1486 hl (by decide) rfl (fun ls hl => ?_)
  refine lv_aload_n hx hb dL_law_1488 rfl (lv_at hl 4 rfl) ?_
  refine mc_i (mr_V (i := 10) (As := []) (rest := []) ⟨hx, hb, hml, hown, hts⟩ (zX6_thrown l D a' cs' 12 (by omega) _ _) (cwV 0 hts gL_law_X6_thrown rfl rfl rfl (by decide +kernel) ⟨Nat.le_of_ble_eq_true rfl, Nat.le_of_ble_eq_true rfl⟩) hm.2.1 hm.2.2.2.2.1 hw (by omega) mE_o kcX6 rfl hl.1 (Nat.le_of_ble_eq_true rfl) dL_law_1489 ⟨Nat.le_of_ble_eq_true rfl, Nat.le_of_ble_eq_true rfl⟩) hw hA (fun H locs hw => ?_)
  refine w_top0 (v := 2) (rfl) ?_
  refine lv_iload hx hb dL_law_1492 (lv_at hl 1 rfl) ?_
  refine lv_icmp_eq (tgt := 1499) hx hb dL_law_1494 (by decide) (fun _ => ?_) (fun c1 => absurd rfl c1)
  refine lv_iload hx hb dL_law_1499 (lv_at hl 1 rfl) ?_
  refine lv_if_ne (tgt := 1516) hx hb dL_law_1501 (by decide) (fun _ => ?_) (fun c1 => absurd c1 (by decide))
  refine lv_goto (tgt := 1793) hx hb dL_law_1516 (by decide) ?_
  refine W.widen (k := 600002) (n := 7302232) (Nat.le_of_ble_eq_true rfl) (Nat.le_of_ble_eq_true rfl) ?_
  exact l_fin C0 hw.2.2 (lv_sub hl [2, 6] rfl)
set_option maxHeartbeats 4000000 in
set_option maxRecDepth 100000 in
theorem ll_crustIn_3 {p : Program} {e : Env} {s : State} {m : MethodId} {below : List Frame} {meth : Method} {c : Code} {l : Launch} (hst : l.stackTraces = false) {b : Nat} {xs : Nat → Int32} (C0 : lw_At p s m meth c b 5 xs) {D : va_G} {a : Nat → Nat} {cs : Nat → ClassId} {a' : Nat → Nat} {cs' : Nat → ClassId} {o : Nat} {cJ : ClassId} {fl : Nat → Int64} (hm : lM D cs cs' cJ s) {H : Heap} {locs : List Loc} (hw : lW D a cs a' cs' o cJ fl s H locs) {ls : Array Slot} (hl : lv_has ls 9 [(0, .ref b), (1, .ref (a 0)), (2, .ref (a' 10)), (3, .ref o), (4, .int 0)]) (q : Nat) (hq : q < 3) (hk1 : xs 1 = nI (5 + q)) (hp : xs 2 < 0 ∨ ¬ xs 2 < 0 ∧ ¬ xs 2 ≤ 9 ∨ ¬ xs 2 < 0 ∧ xs 2 ≤ 9 ∧ xs 3 < 0 ∨ ¬ xs 2 < 0 ∧ xs 2 ≤ 9 ∧ ¬ xs 3 < 0 ∧ ¬ xs 3 ≤ 9) (g1 : g_X6_isIn (xs 2) 0 9 = 1) (g2 : g_X6_isIn (xs 3) 0 9 = 0) : W p l e room_1 s m #[Value.ref b] below meth c H locs 47 402 (lw_Z below #[Value.ref b] s) (F0 m 1439 ls []) := by
  obtain ⟨hx, hb, hr, hml, hown, hts0, hX, hbl, hlocks, hgv⟩ := id C0
  have hts : ∀ w ∈ wsL_law, w.before #[Value.ref b] s = true := fun w h => hts0 w (wsL_law_in w h)
  have hown : s.vm.findClass RL = some m.cls := hown
  have hA : ∀ q, s.heap.size ≤ q → lA s q := fun _ h => h
  have hbA : ¬ lA s b := Nat.not_le.mpr hbl
  refine lv_aload_n hx hb dL_law_1439 rfl (lv_at hl 1 rfl) ?_
  refine l_ld (k := 1) (v := nI (5 + q)) hx hb hX hbl hbA hw.2.2 (lv_at hl 0 rfl) (lv_at hl 4 rfl) hk1 (by decide) dL_law_1440 dL_law_1441 dL_law_1443 (by decide) dL_law_1444 dL_law_1445 ?_
  refine l_ld (k := 2) (v := xs 2) hx hb hX hbl hbA hw.2.2 (lv_at hl 0 rfl) (lv_at hl 4 rfl) rfl (by decide) dL_law_1446 dL_law_1447 dL_law_1449 (by decide) dL_law_1450 dL_law_1451 ?_
  refine l_ld (k := 3) (v := xs 3) hx hb hX hbl hbA hw.2.2 (lv_at hl 0 rfl) (lv_at hl 4 rfl) rfl (by decide) dL_law_1452 dL_law_1453 dL_law_1455 (by decide) dL_law_1456 dL_law_1457 ?_
  refine lv_aload_n hx hb dL_law_1458 rfl (lv_at hl 3 rfl) ?_
  refine lh_x (As := [.ref (a 0), .int (nI (5 + q)), .int (xs 2), .int (xs 3), .ref o]) ⟨hx, hb, hml, hown, hts⟩ (zL_crustIn_x2 l hst D a cs f_new o cJ fl (lW_so hw) q hq (xs 2) (xs 3) hp _) (vx_cwSW 5 hts gL_law_L_crustIn rfl rfl rfl (by decide +kernel) ⟨Nat.le_of_ble_eq_true rfl, Nat.le_of_ble_eq_true rfl⟩) hm hw rfl hl.1 dL_law_1459 ⟨Nat.le_of_ble_eq_true rfl, Nat.le_of_ble_eq_true rfl⟩ (fun H locs hw => ?_)
  refine lv_istore (lv' := [(5, .int 2), (0, .ref b), (1, .ref (a 0)), (2, .ref (a' 10)), (3, .ref o), (4, .int 0)]) hx hb dL_law_1462 hl (by decide) rfl (fun ls hl => ?_)
  refine lv_aload_n hx hb dL_law_1464 rfl (lv_at hl 3 rfl) ?_
  refine l_ld (k := 1) (v := nI (5 + q)) hx hb hX hbl hbA hw.2.2 (lv_at hl 1 rfl) (lv_at hl 5 rfl) hk1 (by decide) dL_law_1465 dL_law_1466 dL_law_1468 (by decide) dL_law_1469 dL_law_1470 ?_
  refine l_ld (k := 2) (v := xs 2) hx hb hX hbl hbA hw.2.2 (lv_at hl 1 rfl) (lv_at hl 5 rfl) rfl (by decide) dL_law_1471 dL_law_1472 dL_law_1474 (by decide) dL_law_1475 dL_law_1476 ?_
  refine l_ld (k := 3) (v := xs 3) hx hb hX hbl hbA hw.2.2 (lv_at hl 1 rfl) (lv_at hl 5 rfl) rfl (by decide) dL_law_1477 dL_law_1478 dL_law_1480 (by decide) dL_law_1481 dL_law_1482 ?_
  refine mc_i (mr_V (i := 10) (As := [.int (nI (5 + q)), .int (xs 2), .int (xs 3)]) (rest := []) ⟨hx, hb, hml, hown, hts⟩ (zX6_crustIn_3 l D a' cs' 12 (by omega) m_row0 q hq (xs 2) (xs 3) g1 g2 _) (cwV 3 hts gL_law_X6_crustIn rfl rfl rfl (by decide +kernel) ⟨Nat.le_of_ble_eq_true rfl, Nat.le_of_ble_eq_true rfl⟩) hm.2.1 hm.2.2.2.2.1 hw (by omega) mE_o kcX6 rfl hl.1 (Nat.le_of_ble_eq_true rfl) dL_law_1483 ⟨Nat.le_of_ble_eq_true rfl, Nat.le_of_ble_eq_true rfl⟩) hw hA (fun H locs hw => ?_)
  refine lv_topi (fun v6 ev6 => ?_)
  refine lv_istore (lv' := [(6, .int v6), (5, .int 2), (0, .ref b), (1, .ref (a 0)), (2, .ref (a' 10)), (3, .ref o), (4, .int 0)]) hx hb dL_law_1486 hl (by decide) rfl (fun ls hl => ?_)
  refine lv_aload_n hx hb dL_law_1488 rfl (lv_at hl 4 rfl) ?_
  refine mc_i (mr_V (i := 10) (As := []) (rest := []) ⟨hx, hb, hml, hown, hts⟩ (zX6_thrown l D a' cs' 12 (by omega) _ _) (cwV 0 hts gL_law_X6_thrown rfl rfl rfl (by decide +kernel) ⟨Nat.le_of_ble_eq_true rfl, Nat.le_of_ble_eq_true rfl⟩) hm.2.1 hm.2.2.2.2.1 hw (by omega) mE_o kcX6 rfl hl.1 (Nat.le_of_ble_eq_true rfl) dL_law_1489 ⟨Nat.le_of_ble_eq_true rfl, Nat.le_of_ble_eq_true rfl⟩) hw hA (fun H locs hw => ?_)
  refine w_top0 (v := 2) (rfl) ?_
  refine lv_iload hx hb dL_law_1492 (lv_at hl 1 rfl) ?_
  refine lv_icmp_eq (tgt := 1499) hx hb dL_law_1494 (by decide) (fun _ => ?_) (fun c1 => absurd rfl c1)
  refine lv_iload hx hb dL_law_1499 (lv_at hl 1 rfl) ?_
  refine lv_if_ne (tgt := 1516) hx hb dL_law_1501 (by decide) (fun _ => ?_) (fun c1 => absurd c1 (by decide))
  refine lv_goto (tgt := 1793) hx hb dL_law_1516 (by decide) ?_
  refine W.widen (k := 600002) (n := 7302232) (Nat.le_of_ble_eq_true rfl) (Nat.le_of_ble_eq_true rfl) ?_
  exact l_fin C0 hw.2.2 (lv_sub hl [2, 6] rfl)
set_option maxHeartbeats 4000000 in
set_option maxRecDepth 100000 in
theorem ll_crustIn_4 {p : Program} {e : Env} {s : State} {m : MethodId} {below : List Frame} {meth : Method} {c : Code} {l : Launch} (hst : l.stackTraces = false) {b : Nat} {xs : Nat → Int32} (C0 : lw_At p s m meth c b 5 xs) {D : va_G} {a : Nat → Nat} {cs : Nat → ClassId} {a' : Nat → Nat} {cs' : Nat → ClassId} {o : Nat} {cJ : ClassId} {fl : Nat → Int64} (hm : lM D cs cs' cJ s) {H : Heap} {locs : List Loc} (hw : lW D a cs a' cs' o cJ fl s H locs) {ls : Array Slot} (hl : lv_has ls 9 [(0, .ref b), (1, .ref (a 0)), (2, .ref (a' 10)), (3, .ref o), (4, .int 0)]) (q : Nat) (hq : q < 3) (hk1 : xs 1 = nI (5 + q)) (hx0 : ¬ xs 2 < 0) (hx9 : xs 2 ≤ 9) (hy0 : ¬ xs 3 < 0) (hy9 : xs 3 ≤ 9) (g1 : g_X6_isIn (xs 2) 0 9 = 1) (g2 : g_X6_isIn (xs 3) 0 9 = 1) : W p l e room_1 s m #[Value.ref b] below meth c H locs 47 402 (lw_Z below #[Value.ref b] s) (F0 m 1439 ls []) := by
  obtain ⟨hx, hb, hr, hml, hown, hts0, hX, hbl, hlocks, hgv⟩ := id C0
  have hts : ∀ w ∈ wsL_law, w.before #[Value.ref b] s = true := fun w h => hts0 w (wsL_law_in w h)
  have hown : s.vm.findClass RL = some m.cls := hown
  have hA : ∀ q, s.heap.size ≤ q → lA s q := fun _ h => h
  have hbA : ¬ lA s b := Nat.not_le.mpr hbl
  refine lv_aload_n hx hb dL_law_1439 rfl (lv_at hl 1 rfl) ?_
  refine l_ld (k := 1) (v := nI (5 + q)) hx hb hX hbl hbA hw.2.2 (lv_at hl 0 rfl) (lv_at hl 4 rfl) hk1 (by decide) dL_law_1440 dL_law_1441 dL_law_1443 (by decide) dL_law_1444 dL_law_1445 ?_
  refine l_ld (k := 2) (v := xs 2) hx hb hX hbl hbA hw.2.2 (lv_at hl 0 rfl) (lv_at hl 4 rfl) rfl (by decide) dL_law_1446 dL_law_1447 dL_law_1449 (by decide) dL_law_1450 dL_law_1451 ?_
  refine l_ld (k := 3) (v := xs 3) hx hb hX hbl hbA hw.2.2 (lv_at hl 0 rfl) (lv_at hl 4 rfl) rfl (by decide) dL_law_1452 dL_law_1453 dL_law_1455 (by decide) dL_law_1456 dL_law_1457 ?_
  refine lv_aload_n hx hb dL_law_1458 rfl (lv_at hl 3 rfl) ?_
  refine lh_n (As := [.ref (a 0), .int (nI (5 + q)), .int (xs 2), .int (xs 3), .ref o]) ⟨hx, hb, hml, hown, hts⟩ (zL_crustIn_n l hst D a cs f_new o cJ fl (lW_so hw) sZ_new q hq (xs 2) (xs 3) hx0 hx9 hy0 hy9 _) (vx_cwSW 5 hts gL_law_L_crustIn rfl rfl rfl (by decide +kernel) ⟨Nat.le_of_ble_eq_true rfl, Nat.le_of_ble_eq_true rfl⟩) hm hw rfl hl.1 dL_law_1459 ⟨Nat.le_of_ble_eq_true rfl, Nat.le_of_ble_eq_true rfl⟩ (fun u H locs hu hw => ?_)
  refine lv_istore (lv' := [(5, .int 0), (0, .ref b), (1, .ref (a 0)), (2, .ref (a' 10)), (3, .ref o), (4, .int 0)]) hx hb dL_law_1462 hl (by decide) rfl (fun ls hl => ?_)
  refine lv_aload_n hx hb dL_law_1464 rfl (lv_at hl 3 rfl) ?_
  refine l_ld (k := 1) (v := nI (5 + q)) hx hb hX hbl hbA hw.2.2 (lv_at hl 1 rfl) (lv_at hl 5 rfl) hk1 (by decide) dL_law_1465 dL_law_1466 dL_law_1468 (by decide) dL_law_1469 dL_law_1470 ?_
  refine l_ld (k := 2) (v := xs 2) hx hb hX hbl hbA hw.2.2 (lv_at hl 1 rfl) (lv_at hl 5 rfl) rfl (by decide) dL_law_1471 dL_law_1472 dL_law_1474 (by decide) dL_law_1475 dL_law_1476 ?_
  refine l_ld (k := 3) (v := xs 3) hx hb hX hbl hbA hw.2.2 (lv_at hl 1 rfl) (lv_at hl 5 rfl) rfl (by decide) dL_law_1477 dL_law_1478 dL_law_1480 (by decide) dL_law_1481 dL_law_1482 ?_
  refine mc_i (mr_V (i := 10) (As := [.int (nI (5 + q)), .int (xs 2), .int (xs 3)]) (rest := []) ⟨hx, hb, hml, hown, hts⟩ (zX6_crustIn_4 l D a' cs' 12 (by omega) m_row0 (mFr_z fr0) (mFr_ar fr0) q hq (xs 2) (xs 3) g1 g2 _) (cwV 3 hts gL_law_X6_crustIn rfl rfl rfl (by decide +kernel) ⟨Nat.le_of_ble_eq_true rfl, Nat.le_of_ble_eq_true rfl⟩) hm.2.1 hm.2.2.2.2.1 hw (by omega) mE_o kcX6 rfl hl.1 (Nat.le_of_ble_eq_true rfl) dL_law_1483 ⟨Nat.le_of_ble_eq_true rfl, Nat.le_of_ble_eq_true rfl⟩) hw hA (fun H locs hw => ?_)
  refine lv_topi (fun v6 ev6 => ?_)
  refine lv_istore (lv' := [(6, .int v6), (5, .int 0), (0, .ref b), (1, .ref (a 0)), (2, .ref (a' 10)), (3, .ref o), (4, .int 0)]) hx hb dL_law_1486 hl (by decide) rfl (fun ls hl => ?_)
  refine lv_aload_n hx hb dL_law_1488 rfl (lv_at hl 4 rfl) ?_
  refine mc_i (mr_V (i := 10) (As := []) (rest := []) ⟨hx, hb, hml, hown, hts⟩ (zX6_thrown l D a' cs' 12 (by omega) _ _) (cwV 0 hts gL_law_X6_thrown rfl rfl rfl (by decide +kernel) ⟨Nat.le_of_ble_eq_true rfl, Nat.le_of_ble_eq_true rfl⟩) hm.2.1 hm.2.2.2.2.1 hw (by omega) mE_o kcX6 rfl hl.1 (Nat.le_of_ble_eq_true rfl) dL_law_1489 ⟨Nat.le_of_ble_eq_true rfl, Nat.le_of_ble_eq_true rfl⟩) hw hA (fun H locs hw => ?_)
  refine w_top0 (v := 0) (rfl) ?_
  refine lv_iload hx hb dL_law_1492 (lv_at hl 1 rfl) ?_
  refine lv_icmp_eq (tgt := 1499) hx hb dL_law_1494 (by decide) (fun _ => ?_) (fun c1 => absurd rfl c1)
  refine lv_iload hx hb dL_law_1499 (lv_at hl 1 rfl) ?_
  refine lv_if_ne (tgt := 1516) hx hb dL_law_1501 (by decide) (fun c1 => absurd rfl c1) (fun _ => ?_)
  refine lv_aload_n hx hb dL_law_1504 rfl (lv_at hl 5 rfl) ?_
  refine lv_iconst (v := 0) hx hb dL_law_1505 (by decide) ?_
  refine va_lald hx hb hm.2.2.1 hw.1 12 0 (by rw [show (12 : Nat) = 12 + 0 from rfl, mX_x]; rfl) rfl (vp_in_nI (n := 0) (by decide) (by decide)) dL_law_1506 ?_
  refine lv_iload hx hb dL_law_1507 (lv_at hl 0 rfl) ?_
  refine lv_i2l hx hb dL_law_1509 rfl ?_
  refine W.lcmp hx hb dL_law_1510 ?_
  refine lv_if_eq (tgt := 1516) hx hb dL_law_1511 (by decide) (fun _ => ?_) (fun c1 => absurd ((lg_cmp_eq _ _).mpr (hu.trans (congrArg Int32.toInt64 (((q_crustX cF_new hq (sum09 hx0 hx9 hy0 hy9).1 (sum09 hx0 hx9 hy0 hy9).2).trans (q_crustM (mFr_thr fr0) hq (sum09 hx0 hx9 hy0 hy9).1 (sum09 hx0 hx9 hy0 hy9).2).symm).trans ev6.symm)))) c1)
  refine lv_goto (tgt := 1793) hx hb dL_law_1516 (by decide) ?_
  refine W.widen (k := 600002) (n := 7302232) (Nat.le_of_ble_eq_true rfl) (Nat.le_of_ble_eq_true rfl) ?_
  exact l_fin C0 hw.2.2 (lv_sub hl [2, 6] rfl)
set_option maxHeartbeats 4000000 in
set_option maxRecDepth 100000 in
theorem ll_bestGates_1 {p : Program} {e : Env} {s : State} {m : MethodId} {below : List Frame} {meth : Method} {c : Code} {l : Launch} (hst : l.stackTraces = false) {b : Nat} {xs : Nat → Int32} (C0 : lw_At p s m meth c b 5 xs) {D : va_G} {a : Nat → Nat} {cs : Nat → ClassId} {a' : Nat → Nat} {cs' : Nat → ClassId} {o : Nat} {cJ : ClassId} {fl : Nat → Int64} (hm : lM D cs cs' cJ s) {H : Heap} {locs : List Loc} (hw : lW D a cs a' cs' o cJ fl s H locs) {ls : Array Slot} (hl : lv_has ls 9 [(0, .ref b), (1, .ref (a 0)), (2, .ref (a' 10)), (3, .ref o), (4, .int 0)]) (h1 : xs 1 < 1) (h0 : g_X6_isIn (xs 1) 1 9 = 0) : W p l e room_1 s m #[Value.ref b] below meth c H locs 47 402 (lw_Z below #[Value.ref b] s) (F0 m 1519 ls []) := by
  obtain ⟨hx, hb, hr, hml, hown, hts0, hX, hbl, hlocks, hgv⟩ := id C0
  have hts : ∀ w ∈ wsL_law, w.before #[Value.ref b] s = true := fun w h => hts0 w (wsL_law_in w h)
  have hown : s.vm.findClass RL = some m.cls := hown
  have hA : ∀ q, s.heap.size ≤ q → lA s q := fun _ h => h
  have hbA : ¬ lA s b := Nat.not_le.mpr hbl
  refine lv_aload_n hx hb dL_law_1519 rfl (lv_at hl 1 rfl) ?_
  refine l_ld (k := 1) (v := xs 1) hx hb hX hbl hbA hw.2.2 (lv_at hl 0 rfl) (lv_at hl 4 rfl) rfl (by decide) dL_law_1520 dL_law_1521 dL_law_1523 (by decide) dL_law_1524 dL_law_1525 ?_
  refine l_ld (k := 2) (v := xs 2) hx hb hX hbl hbA hw.2.2 (lv_at hl 0 rfl) (lv_at hl 4 rfl) rfl (by decide) dL_law_1526 dL_law_1527 dL_law_1529 (by decide) dL_law_1530 dL_law_1531 ?_
  refine l_ld (k := 3) (v := xs 3) hx hb hX hbl hbA hw.2.2 (lv_at hl 0 rfl) (lv_at hl 4 rfl) rfl (by decide) dL_law_1532 dL_law_1533 dL_law_1535 (by decide) dL_law_1536 dL_law_1537 ?_
  refine lv_aload_n hx hb dL_law_1538 rfl (lv_at hl 3 rfl) ?_
  refine lh_x (As := [.ref (a 0), .int (xs 1), .int (xs 2), .int (xs 3), .ref o]) ⟨hx, hb, hml, hown, hts⟩ (zL_bestGates_x1 l hst D a cs f_new o cJ fl (lW_so hw) (xs 1) (xs 2) (xs 3) h1 _) (vx_cwSW 5 hts gL_law_L_bestGates rfl rfl rfl (by decide +kernel) ⟨Nat.le_of_ble_eq_true rfl, Nat.le_of_ble_eq_true rfl⟩) hm hw rfl hl.1 dL_law_1539 ⟨Nat.le_of_ble_eq_true rfl, Nat.le_of_ble_eq_true rfl⟩ (fun H locs hw => ?_)
  refine lv_istore (lv' := [(5, .int 1), (0, .ref b), (1, .ref (a 0)), (2, .ref (a' 10)), (3, .ref o), (4, .int 0)]) hx hb dL_law_1542 hl (by decide) rfl (fun ls hl => ?_)
  refine lv_aload_n hx hb dL_law_1544 rfl (lv_at hl 3 rfl) ?_
  refine l_ld (k := 1) (v := xs 1) hx hb hX hbl hbA hw.2.2 (lv_at hl 1 rfl) (lv_at hl 5 rfl) rfl (by decide) dL_law_1545 dL_law_1546 dL_law_1548 (by decide) dL_law_1549 dL_law_1550 ?_
  refine l_ld (k := 2) (v := xs 2) hx hb hX hbl hbA hw.2.2 (lv_at hl 1 rfl) (lv_at hl 5 rfl) rfl (by decide) dL_law_1551 dL_law_1552 dL_law_1554 (by decide) dL_law_1555 dL_law_1556 ?_
  refine l_ld (k := 3) (v := xs 3) hx hb hX hbl hbA hw.2.2 (lv_at hl 1 rfl) (lv_at hl 5 rfl) rfl (by decide) dL_law_1557 dL_law_1558 dL_law_1560 (by decide) dL_law_1561 dL_law_1562 ?_
  refine mc_i (mr_V (i := 10) (As := [.int (xs 1), .int (xs 2), .int (xs 3)]) (rest := []) ⟨hx, hb, hml, hown, hts⟩ (zX6_bestGates_1 l D a' cs' 12 (by omega) m_row0 (xs 1) (xs 2) (xs 3) h0 _) (cwV 3 hts gL_law_X6_bestGates rfl rfl rfl (by decide +kernel) ⟨Nat.le_of_ble_eq_true rfl, Nat.le_of_ble_eq_true rfl⟩) hm.2.1 hm.2.2.2.2.1 hw (by omega) mE_o kcX6 rfl hl.1 (Nat.le_of_ble_eq_true rfl) dL_law_1563 ⟨Nat.le_of_ble_eq_true rfl, Nat.le_of_ble_eq_true rfl⟩) hw hA (fun H locs hw => ?_)
  refine lv_topi (fun v6 ev6 => ?_)
  refine lv_istore (lv' := [(6, .int v6), (5, .int 1), (0, .ref b), (1, .ref (a 0)), (2, .ref (a' 10)), (3, .ref o), (4, .int 0)]) hx hb dL_law_1566 hl (by decide) rfl (fun ls hl => ?_)
  refine lv_aload_n hx hb dL_law_1568 rfl (lv_at hl 4 rfl) ?_
  refine mc_i (mr_V (i := 10) (As := []) (rest := []) ⟨hx, hb, hml, hown, hts⟩ (zX6_thrown l D a' cs' 12 (by omega) _ _) (cwV 0 hts gL_law_X6_thrown rfl rfl rfl (by decide +kernel) ⟨Nat.le_of_ble_eq_true rfl, Nat.le_of_ble_eq_true rfl⟩) hm.2.1 hm.2.2.2.2.1 hw (by omega) mE_o kcX6 rfl hl.1 (Nat.le_of_ble_eq_true rfl) dL_law_1569 ⟨Nat.le_of_ble_eq_true rfl, Nat.le_of_ble_eq_true rfl⟩) hw hA (fun H locs hw => ?_)
  refine w_top0 (v := 1) (rfl) ?_
  refine lv_iload hx hb dL_law_1572 (lv_at hl 1 rfl) ?_
  refine lv_icmp_eq (tgt := 1579) hx hb dL_law_1574 (by decide) (fun _ => ?_) (fun c1 => absurd rfl c1)
  refine lv_iload hx hb dL_law_1579 (lv_at hl 1 rfl) ?_
  refine lv_if_ne (tgt := 1596) hx hb dL_law_1581 (by decide) (fun _ => ?_) (fun c1 => absurd c1 (by decide))
  refine lv_goto (tgt := 1793) hx hb dL_law_1596 (by decide) ?_
  refine W.widen (k := 600002) (n := 7302232) (Nat.le_of_ble_eq_true rfl) (Nat.le_of_ble_eq_true rfl) ?_
  exact l_fin C0 hw.2.2 (lv_sub hl [2, 6] rfl)
set_option maxHeartbeats 4000000 in
set_option maxRecDepth 100000 in
theorem ll_bestGates_2 {p : Program} {e : Env} {s : State} {m : MethodId} {below : List Frame} {meth : Method} {c : Code} {l : Launch} (hst : l.stackTraces = false) {b : Nat} {xs : Nat → Int32} (C0 : lw_At p s m meth c b 5 xs) {D : va_G} {a : Nat → Nat} {cs : Nat → ClassId} {a' : Nat → Nat} {cs' : Nat → ClassId} {o : Nat} {cJ : ClassId} {fl : Nat → Int64} (hm : lM D cs cs' cJ s) {H : Heap} {locs : List Loc} (hw : lW D a cs a' cs' o cJ fl s H locs) {ls : Array Slot} (hl : lv_has ls 9 [(0, .ref b), (1, .ref (a 0)), (2, .ref (a' 10)), (3, .ref o), (4, .int 0)]) (h1 : ¬ xs 1 < 1) (h2 : ¬ xs 1 ≤ 9) (h0 : g_X6_isIn (xs 1) 1 9 = 0) : W p l e room_1 s m #[Value.ref b] below meth c H locs 47 402 (lw_Z below #[Value.ref b] s) (F0 m 1519 ls []) := by
  obtain ⟨hx, hb, hr, hml, hown, hts0, hX, hbl, hlocks, hgv⟩ := id C0
  have hts : ∀ w ∈ wsL_law, w.before #[Value.ref b] s = true := fun w h => hts0 w (wsL_law_in w h)
  have hown : s.vm.findClass RL = some m.cls := hown
  have hA : ∀ q, s.heap.size ≤ q → lA s q := fun _ h => h
  have hbA : ¬ lA s b := Nat.not_le.mpr hbl
  refine lv_aload_n hx hb dL_law_1519 rfl (lv_at hl 1 rfl) ?_
  refine l_ld (k := 1) (v := xs 1) hx hb hX hbl hbA hw.2.2 (lv_at hl 0 rfl) (lv_at hl 4 rfl) rfl (by decide) dL_law_1520 dL_law_1521 dL_law_1523 (by decide) dL_law_1524 dL_law_1525 ?_
  refine l_ld (k := 2) (v := xs 2) hx hb hX hbl hbA hw.2.2 (lv_at hl 0 rfl) (lv_at hl 4 rfl) rfl (by decide) dL_law_1526 dL_law_1527 dL_law_1529 (by decide) dL_law_1530 dL_law_1531 ?_
  refine l_ld (k := 3) (v := xs 3) hx hb hX hbl hbA hw.2.2 (lv_at hl 0 rfl) (lv_at hl 4 rfl) rfl (by decide) dL_law_1532 dL_law_1533 dL_law_1535 (by decide) dL_law_1536 dL_law_1537 ?_
  refine lv_aload_n hx hb dL_law_1538 rfl (lv_at hl 3 rfl) ?_
  refine lh_x (As := [.ref (a 0), .int (xs 1), .int (xs 2), .int (xs 3), .ref o]) ⟨hx, hb, hml, hown, hts⟩ (zL_bestGates_x2 l hst D a cs f_new o cJ fl (lW_so hw) (xs 1) (xs 2) (xs 3) h1 h2 _) (vx_cwSW 5 hts gL_law_L_bestGates rfl rfl rfl (by decide +kernel) ⟨Nat.le_of_ble_eq_true rfl, Nat.le_of_ble_eq_true rfl⟩) hm hw rfl hl.1 dL_law_1539 ⟨Nat.le_of_ble_eq_true rfl, Nat.le_of_ble_eq_true rfl⟩ (fun H locs hw => ?_)
  refine lv_istore (lv' := [(5, .int 1), (0, .ref b), (1, .ref (a 0)), (2, .ref (a' 10)), (3, .ref o), (4, .int 0)]) hx hb dL_law_1542 hl (by decide) rfl (fun ls hl => ?_)
  refine lv_aload_n hx hb dL_law_1544 rfl (lv_at hl 3 rfl) ?_
  refine l_ld (k := 1) (v := xs 1) hx hb hX hbl hbA hw.2.2 (lv_at hl 1 rfl) (lv_at hl 5 rfl) rfl (by decide) dL_law_1545 dL_law_1546 dL_law_1548 (by decide) dL_law_1549 dL_law_1550 ?_
  refine l_ld (k := 2) (v := xs 2) hx hb hX hbl hbA hw.2.2 (lv_at hl 1 rfl) (lv_at hl 5 rfl) rfl (by decide) dL_law_1551 dL_law_1552 dL_law_1554 (by decide) dL_law_1555 dL_law_1556 ?_
  refine l_ld (k := 3) (v := xs 3) hx hb hX hbl hbA hw.2.2 (lv_at hl 1 rfl) (lv_at hl 5 rfl) rfl (by decide) dL_law_1557 dL_law_1558 dL_law_1560 (by decide) dL_law_1561 dL_law_1562 ?_
  refine mc_i (mr_V (i := 10) (As := [.int (xs 1), .int (xs 2), .int (xs 3)]) (rest := []) ⟨hx, hb, hml, hown, hts⟩ (zX6_bestGates_1 l D a' cs' 12 (by omega) m_row0 (xs 1) (xs 2) (xs 3) h0 _) (cwV 3 hts gL_law_X6_bestGates rfl rfl rfl (by decide +kernel) ⟨Nat.le_of_ble_eq_true rfl, Nat.le_of_ble_eq_true rfl⟩) hm.2.1 hm.2.2.2.2.1 hw (by omega) mE_o kcX6 rfl hl.1 (Nat.le_of_ble_eq_true rfl) dL_law_1563 ⟨Nat.le_of_ble_eq_true rfl, Nat.le_of_ble_eq_true rfl⟩) hw hA (fun H locs hw => ?_)
  refine lv_topi (fun v6 ev6 => ?_)
  refine lv_istore (lv' := [(6, .int v6), (5, .int 1), (0, .ref b), (1, .ref (a 0)), (2, .ref (a' 10)), (3, .ref o), (4, .int 0)]) hx hb dL_law_1566 hl (by decide) rfl (fun ls hl => ?_)
  refine lv_aload_n hx hb dL_law_1568 rfl (lv_at hl 4 rfl) ?_
  refine mc_i (mr_V (i := 10) (As := []) (rest := []) ⟨hx, hb, hml, hown, hts⟩ (zX6_thrown l D a' cs' 12 (by omega) _ _) (cwV 0 hts gL_law_X6_thrown rfl rfl rfl (by decide +kernel) ⟨Nat.le_of_ble_eq_true rfl, Nat.le_of_ble_eq_true rfl⟩) hm.2.1 hm.2.2.2.2.1 hw (by omega) mE_o kcX6 rfl hl.1 (Nat.le_of_ble_eq_true rfl) dL_law_1569 ⟨Nat.le_of_ble_eq_true rfl, Nat.le_of_ble_eq_true rfl⟩) hw hA (fun H locs hw => ?_)
  refine w_top0 (v := 1) (rfl) ?_
  refine lv_iload hx hb dL_law_1572 (lv_at hl 1 rfl) ?_
  refine lv_icmp_eq (tgt := 1579) hx hb dL_law_1574 (by decide) (fun _ => ?_) (fun c1 => absurd rfl c1)
  refine lv_iload hx hb dL_law_1579 (lv_at hl 1 rfl) ?_
  refine lv_if_ne (tgt := 1596) hx hb dL_law_1581 (by decide) (fun _ => ?_) (fun c1 => absurd c1 (by decide))
  refine lv_goto (tgt := 1793) hx hb dL_law_1596 (by decide) ?_
  refine W.widen (k := 600002) (n := 7302232) (Nat.le_of_ble_eq_true rfl) (Nat.le_of_ble_eq_true rfl) ?_
  exact l_fin C0 hw.2.2 (lv_sub hl [2, 6] rfl)
set_option maxHeartbeats 4000000 in
set_option maxRecDepth 100000 in
theorem ll_bestGates_3 {p : Program} {e : Env} {s : State} {m : MethodId} {below : List Frame} {meth : Method} {c : Code} {l : Launch} (hst : l.stackTraces = false) {b : Nat} {xs : Nat → Int32} (C0 : lw_At p s m meth c b 5 xs) {D : va_G} {a : Nat → Nat} {cs : Nat → ClassId} {a' : Nat → Nat} {cs' : Nat → ClassId} {o : Nat} {cJ : ClassId} {fl : Nat → Int64} (hm : lM D cs cs' cJ s) {H : Heap} {locs : List Loc} (hw : lW D a cs a' cs' o cJ fl s H locs) {ls : Array Slot} (hl : lv_has ls 9 [(0, .ref b), (1, .ref (a 0)), (2, .ref (a' 10)), (3, .ref o), (4, .int 0)]) (h1 : ¬ xs 1 < 1) (h2 : xs 1 ≤ 9) (h0 : g_X6_isIn (xs 1) 1 9 = 1) (hp : xs 2 < 0 ∨ ¬ xs 2 < 0 ∧ ¬ xs 2 ≤ 9 ∨ ¬ xs 2 < 0 ∧ xs 2 ≤ 9 ∧ xs 3 < 0 ∨ ¬ xs 2 < 0 ∧ xs 2 ≤ 9 ∧ ¬ xs 3 < 0 ∧ ¬ xs 3 ≤ 9) (g1 : g_X6_isIn (xs 2) 0 9 = 0) : W p l e room_1 s m #[Value.ref b] below meth c H locs 47 402 (lw_Z below #[Value.ref b] s) (F0 m 1519 ls []) := by
  obtain ⟨hx, hb, hr, hml, hown, hts0, hX, hbl, hlocks, hgv⟩ := id C0
  have hts : ∀ w ∈ wsL_law, w.before #[Value.ref b] s = true := fun w h => hts0 w (wsL_law_in w h)
  have hown : s.vm.findClass RL = some m.cls := hown
  have hA : ∀ q, s.heap.size ≤ q → lA s q := fun _ h => h
  have hbA : ¬ lA s b := Nat.not_le.mpr hbl
  refine lv_aload_n hx hb dL_law_1519 rfl (lv_at hl 1 rfl) ?_
  refine l_ld (k := 1) (v := xs 1) hx hb hX hbl hbA hw.2.2 (lv_at hl 0 rfl) (lv_at hl 4 rfl) rfl (by decide) dL_law_1520 dL_law_1521 dL_law_1523 (by decide) dL_law_1524 dL_law_1525 ?_
  refine l_ld (k := 2) (v := xs 2) hx hb hX hbl hbA hw.2.2 (lv_at hl 0 rfl) (lv_at hl 4 rfl) rfl (by decide) dL_law_1526 dL_law_1527 dL_law_1529 (by decide) dL_law_1530 dL_law_1531 ?_
  refine l_ld (k := 3) (v := xs 3) hx hb hX hbl hbA hw.2.2 (lv_at hl 0 rfl) (lv_at hl 4 rfl) rfl (by decide) dL_law_1532 dL_law_1533 dL_law_1535 (by decide) dL_law_1536 dL_law_1537 ?_
  refine lv_aload_n hx hb dL_law_1538 rfl (lv_at hl 3 rfl) ?_
  refine lh_x (As := [.ref (a 0), .int (xs 1), .int (xs 2), .int (xs 3), .ref o]) ⟨hx, hb, hml, hown, hts⟩ (zL_bestGates_x3 l hst D a cs f_new o cJ fl (lW_so hw) (xs 1) h1 h2 (xs 2) (xs 3) hp _) (vx_cwSW 5 hts gL_law_L_bestGates rfl rfl rfl (by decide +kernel) ⟨Nat.le_of_ble_eq_true rfl, Nat.le_of_ble_eq_true rfl⟩) hm hw rfl hl.1 dL_law_1539 ⟨Nat.le_of_ble_eq_true rfl, Nat.le_of_ble_eq_true rfl⟩ (fun H locs hw => ?_)
  refine lv_istore (lv' := [(5, .int 1), (0, .ref b), (1, .ref (a 0)), (2, .ref (a' 10)), (3, .ref o), (4, .int 0)]) hx hb dL_law_1542 hl (by decide) rfl (fun ls hl => ?_)
  refine lv_aload_n hx hb dL_law_1544 rfl (lv_at hl 3 rfl) ?_
  refine l_ld (k := 1) (v := xs 1) hx hb hX hbl hbA hw.2.2 (lv_at hl 1 rfl) (lv_at hl 5 rfl) rfl (by decide) dL_law_1545 dL_law_1546 dL_law_1548 (by decide) dL_law_1549 dL_law_1550 ?_
  refine l_ld (k := 2) (v := xs 2) hx hb hX hbl hbA hw.2.2 (lv_at hl 1 rfl) (lv_at hl 5 rfl) rfl (by decide) dL_law_1551 dL_law_1552 dL_law_1554 (by decide) dL_law_1555 dL_law_1556 ?_
  refine l_ld (k := 3) (v := xs 3) hx hb hX hbl hbA hw.2.2 (lv_at hl 1 rfl) (lv_at hl 5 rfl) rfl (by decide) dL_law_1557 dL_law_1558 dL_law_1560 (by decide) dL_law_1561 dL_law_1562 ?_
  refine mc_i (mr_V (i := 10) (As := [.int (xs 1), .int (xs 2), .int (xs 3)]) (rest := []) ⟨hx, hb, hml, hown, hts⟩ (zX6_bestGates_2 l D a' cs' 12 (by omega) m_row0 (xs 1) (xs 2) (xs 3) h0 g1 _) (cwV 3 hts gL_law_X6_bestGates rfl rfl rfl (by decide +kernel) ⟨Nat.le_of_ble_eq_true rfl, Nat.le_of_ble_eq_true rfl⟩) hm.2.1 hm.2.2.2.2.1 hw (by omega) mE_o kcX6 rfl hl.1 (Nat.le_of_ble_eq_true rfl) dL_law_1563 ⟨Nat.le_of_ble_eq_true rfl, Nat.le_of_ble_eq_true rfl⟩) hw hA (fun H locs hw => ?_)
  refine lv_topi (fun v6 ev6 => ?_)
  refine lv_istore (lv' := [(6, .int v6), (5, .int 1), (0, .ref b), (1, .ref (a 0)), (2, .ref (a' 10)), (3, .ref o), (4, .int 0)]) hx hb dL_law_1566 hl (by decide) rfl (fun ls hl => ?_)
  refine lv_aload_n hx hb dL_law_1568 rfl (lv_at hl 4 rfl) ?_
  refine mc_i (mr_V (i := 10) (As := []) (rest := []) ⟨hx, hb, hml, hown, hts⟩ (zX6_thrown l D a' cs' 12 (by omega) _ _) (cwV 0 hts gL_law_X6_thrown rfl rfl rfl (by decide +kernel) ⟨Nat.le_of_ble_eq_true rfl, Nat.le_of_ble_eq_true rfl⟩) hm.2.1 hm.2.2.2.2.1 hw (by omega) mE_o kcX6 rfl hl.1 (Nat.le_of_ble_eq_true rfl) dL_law_1569 ⟨Nat.le_of_ble_eq_true rfl, Nat.le_of_ble_eq_true rfl⟩) hw hA (fun H locs hw => ?_)
  refine w_top0 (v := 1) (rfl) ?_
  refine lv_iload hx hb dL_law_1572 (lv_at hl 1 rfl) ?_
  refine lv_icmp_eq (tgt := 1579) hx hb dL_law_1574 (by decide) (fun _ => ?_) (fun c1 => absurd rfl c1)
  refine lv_iload hx hb dL_law_1579 (lv_at hl 1 rfl) ?_
  refine lv_if_ne (tgt := 1596) hx hb dL_law_1581 (by decide) (fun _ => ?_) (fun c1 => absurd c1 (by decide))
  refine lv_goto (tgt := 1793) hx hb dL_law_1596 (by decide) ?_
  refine W.widen (k := 600002) (n := 7302232) (Nat.le_of_ble_eq_true rfl) (Nat.le_of_ble_eq_true rfl) ?_
  exact l_fin C0 hw.2.2 (lv_sub hl [2, 6] rfl)
set_option maxHeartbeats 4000000 in
set_option maxRecDepth 100000 in
theorem ll_bestGates_4 {p : Program} {e : Env} {s : State} {m : MethodId} {below : List Frame} {meth : Method} {c : Code} {l : Launch} (hst : l.stackTraces = false) {b : Nat} {xs : Nat → Int32} (C0 : lw_At p s m meth c b 5 xs) {D : va_G} {a : Nat → Nat} {cs : Nat → ClassId} {a' : Nat → Nat} {cs' : Nat → ClassId} {o : Nat} {cJ : ClassId} {fl : Nat → Int64} (hm : lM D cs cs' cJ s) {H : Heap} {locs : List Loc} (hw : lW D a cs a' cs' o cJ fl s H locs) {ls : Array Slot} (hl : lv_has ls 9 [(0, .ref b), (1, .ref (a 0)), (2, .ref (a' 10)), (3, .ref o), (4, .int 0)]) (h1 : ¬ xs 1 < 1) (h2 : xs 1 ≤ 9) (h0 : g_X6_isIn (xs 1) 1 9 = 1) (hp : xs 2 < 0 ∨ ¬ xs 2 < 0 ∧ ¬ xs 2 ≤ 9 ∨ ¬ xs 2 < 0 ∧ xs 2 ≤ 9 ∧ xs 3 < 0 ∨ ¬ xs 2 < 0 ∧ xs 2 ≤ 9 ∧ ¬ xs 3 < 0 ∧ ¬ xs 3 ≤ 9) (g1 : g_X6_isIn (xs 2) 0 9 = 1) (g2 : g_X6_isIn (xs 3) 0 9 = 0) : W p l e room_1 s m #[Value.ref b] below meth c H locs 47 402 (lw_Z below #[Value.ref b] s) (F0 m 1519 ls []) := by
  obtain ⟨hx, hb, hr, hml, hown, hts0, hX, hbl, hlocks, hgv⟩ := id C0
  have hts : ∀ w ∈ wsL_law, w.before #[Value.ref b] s = true := fun w h => hts0 w (wsL_law_in w h)
  have hown : s.vm.findClass RL = some m.cls := hown
  have hA : ∀ q, s.heap.size ≤ q → lA s q := fun _ h => h
  have hbA : ¬ lA s b := Nat.not_le.mpr hbl
  refine lv_aload_n hx hb dL_law_1519 rfl (lv_at hl 1 rfl) ?_
  refine l_ld (k := 1) (v := xs 1) hx hb hX hbl hbA hw.2.2 (lv_at hl 0 rfl) (lv_at hl 4 rfl) rfl (by decide) dL_law_1520 dL_law_1521 dL_law_1523 (by decide) dL_law_1524 dL_law_1525 ?_
  refine l_ld (k := 2) (v := xs 2) hx hb hX hbl hbA hw.2.2 (lv_at hl 0 rfl) (lv_at hl 4 rfl) rfl (by decide) dL_law_1526 dL_law_1527 dL_law_1529 (by decide) dL_law_1530 dL_law_1531 ?_
  refine l_ld (k := 3) (v := xs 3) hx hb hX hbl hbA hw.2.2 (lv_at hl 0 rfl) (lv_at hl 4 rfl) rfl (by decide) dL_law_1532 dL_law_1533 dL_law_1535 (by decide) dL_law_1536 dL_law_1537 ?_
  refine lv_aload_n hx hb dL_law_1538 rfl (lv_at hl 3 rfl) ?_
  refine lh_x (As := [.ref (a 0), .int (xs 1), .int (xs 2), .int (xs 3), .ref o]) ⟨hx, hb, hml, hown, hts⟩ (zL_bestGates_x3 l hst D a cs f_new o cJ fl (lW_so hw) (xs 1) h1 h2 (xs 2) (xs 3) hp _) (vx_cwSW 5 hts gL_law_L_bestGates rfl rfl rfl (by decide +kernel) ⟨Nat.le_of_ble_eq_true rfl, Nat.le_of_ble_eq_true rfl⟩) hm hw rfl hl.1 dL_law_1539 ⟨Nat.le_of_ble_eq_true rfl, Nat.le_of_ble_eq_true rfl⟩ (fun H locs hw => ?_)
  refine lv_istore (lv' := [(5, .int 1), (0, .ref b), (1, .ref (a 0)), (2, .ref (a' 10)), (3, .ref o), (4, .int 0)]) hx hb dL_law_1542 hl (by decide) rfl (fun ls hl => ?_)
  refine lv_aload_n hx hb dL_law_1544 rfl (lv_at hl 3 rfl) ?_
  refine l_ld (k := 1) (v := xs 1) hx hb hX hbl hbA hw.2.2 (lv_at hl 1 rfl) (lv_at hl 5 rfl) rfl (by decide) dL_law_1545 dL_law_1546 dL_law_1548 (by decide) dL_law_1549 dL_law_1550 ?_
  refine l_ld (k := 2) (v := xs 2) hx hb hX hbl hbA hw.2.2 (lv_at hl 1 rfl) (lv_at hl 5 rfl) rfl (by decide) dL_law_1551 dL_law_1552 dL_law_1554 (by decide) dL_law_1555 dL_law_1556 ?_
  refine l_ld (k := 3) (v := xs 3) hx hb hX hbl hbA hw.2.2 (lv_at hl 1 rfl) (lv_at hl 5 rfl) rfl (by decide) dL_law_1557 dL_law_1558 dL_law_1560 (by decide) dL_law_1561 dL_law_1562 ?_
  refine mc_i (mr_V (i := 10) (As := [.int (xs 1), .int (xs 2), .int (xs 3)]) (rest := []) ⟨hx, hb, hml, hown, hts⟩ (zX6_bestGates_3 l D a' cs' 12 (by omega) m_row0 (xs 1) (xs 2) (xs 3) h0 g1 g2 _) (cwV 3 hts gL_law_X6_bestGates rfl rfl rfl (by decide +kernel) ⟨Nat.le_of_ble_eq_true rfl, Nat.le_of_ble_eq_true rfl⟩) hm.2.1 hm.2.2.2.2.1 hw (by omega) mE_o kcX6 rfl hl.1 (Nat.le_of_ble_eq_true rfl) dL_law_1563 ⟨Nat.le_of_ble_eq_true rfl, Nat.le_of_ble_eq_true rfl⟩) hw hA (fun H locs hw => ?_)
  refine lv_topi (fun v6 ev6 => ?_)
  refine lv_istore (lv' := [(6, .int v6), (5, .int 1), (0, .ref b), (1, .ref (a 0)), (2, .ref (a' 10)), (3, .ref o), (4, .int 0)]) hx hb dL_law_1566 hl (by decide) rfl (fun ls hl => ?_)
  refine lv_aload_n hx hb dL_law_1568 rfl (lv_at hl 4 rfl) ?_
  refine mc_i (mr_V (i := 10) (As := []) (rest := []) ⟨hx, hb, hml, hown, hts⟩ (zX6_thrown l D a' cs' 12 (by omega) _ _) (cwV 0 hts gL_law_X6_thrown rfl rfl rfl (by decide +kernel) ⟨Nat.le_of_ble_eq_true rfl, Nat.le_of_ble_eq_true rfl⟩) hm.2.1 hm.2.2.2.2.1 hw (by omega) mE_o kcX6 rfl hl.1 (Nat.le_of_ble_eq_true rfl) dL_law_1569 ⟨Nat.le_of_ble_eq_true rfl, Nat.le_of_ble_eq_true rfl⟩) hw hA (fun H locs hw => ?_)
  refine w_top0 (v := 1) (rfl) ?_
  refine lv_iload hx hb dL_law_1572 (lv_at hl 1 rfl) ?_
  refine lv_icmp_eq (tgt := 1579) hx hb dL_law_1574 (by decide) (fun _ => ?_) (fun c1 => absurd rfl c1)
  refine lv_iload hx hb dL_law_1579 (lv_at hl 1 rfl) ?_
  refine lv_if_ne (tgt := 1596) hx hb dL_law_1581 (by decide) (fun _ => ?_) (fun c1 => absurd c1 (by decide))
  refine lv_goto (tgt := 1793) hx hb dL_law_1596 (by decide) ?_
  refine W.widen (k := 600002) (n := 7302232) (Nat.le_of_ble_eq_true rfl) (Nat.le_of_ble_eq_true rfl) ?_
  exact l_fin C0 hw.2.2 (lv_sub hl [2, 6] rfl)
set_option maxHeartbeats 4000000 in
set_option maxRecDepth 100000 in
theorem ll_bestGates_5 {p : Program} {e : Env} {s : State} {m : MethodId} {below : List Frame} {meth : Method} {c : Code} {l : Launch} (hst : l.stackTraces = false) {b : Nat} {xs : Nat → Int32} (C0 : lw_At p s m meth c b 5 xs) {D : va_G} {a : Nat → Nat} {cs : Nat → ClassId} {a' : Nat → Nat} {cs' : Nat → ClassId} {o : Nat} {cJ : ClassId} {fl : Nat → Int64} (hm : lM D cs cs' cJ s) {H : Heap} {locs : List Loc} (hw : lW D a cs a' cs' o cJ fl s H locs) {ls : Array Slot} (hl : lv_has ls 9 [(0, .ref b), (1, .ref (a 0)), (2, .ref (a' 10)), (3, .ref o), (4, .int 0)]) (n0 : Nat) (hn : 1 ≤ n0 ∧ n0 ≤ 9) (hk1 : xs 1 = nI n0) (h0 : g_X6_isIn (nI n0) 1 9 = 1) (hx0 : ¬ xs 2 < 0) (hx9 : xs 2 ≤ 9) (hy0 : ¬ xs 3 < 0) (hy9 : xs 3 ≤ 9) (g1 : g_X6_isIn (xs 2) 0 9 = 1) (g2 : g_X6_isIn (xs 3) 0 9 = 1) : W p l e room_1 s m #[Value.ref b] below meth c H locs 47 402 (lw_Z below #[Value.ref b] s) (F0 m 1519 ls []) := by
  obtain ⟨hx, hb, hr, hml, hown, hts0, hX, hbl, hlocks, hgv⟩ := id C0
  have hts : ∀ w ∈ wsL_law, w.before #[Value.ref b] s = true := fun w h => hts0 w (wsL_law_in w h)
  have hown : s.vm.findClass RL = some m.cls := hown
  have hA : ∀ q, s.heap.size ≤ q → lA s q := fun _ h => h
  have hbA : ¬ lA s b := Nat.not_le.mpr hbl
  refine lv_aload_n hx hb dL_law_1519 rfl (lv_at hl 1 rfl) ?_
  refine l_ld (k := 1) (v := nI n0) hx hb hX hbl hbA hw.2.2 (lv_at hl 0 rfl) (lv_at hl 4 rfl) hk1 (by decide) dL_law_1520 dL_law_1521 dL_law_1523 (by decide) dL_law_1524 dL_law_1525 ?_
  refine l_ld (k := 2) (v := xs 2) hx hb hX hbl hbA hw.2.2 (lv_at hl 0 rfl) (lv_at hl 4 rfl) rfl (by decide) dL_law_1526 dL_law_1527 dL_law_1529 (by decide) dL_law_1530 dL_law_1531 ?_
  refine l_ld (k := 3) (v := xs 3) hx hb hX hbl hbA hw.2.2 (lv_at hl 0 rfl) (lv_at hl 4 rfl) rfl (by decide) dL_law_1532 dL_law_1533 dL_law_1535 (by decide) dL_law_1536 dL_law_1537 ?_
  refine lv_aload_n hx hb dL_law_1538 rfl (lv_at hl 3 rfl) ?_
  refine lh_n (As := [.ref (a 0), .int (nI n0), .int (xs 2), .int (xs 3), .ref o]) ⟨hx, hb, hml, hown, hts⟩ (zL_bestGates_n l hst D a cs f_new o cJ fl (lW_so hw) sZ_new n0 hn (xs 2) (xs 3) hx0 hx9 hy0 hy9 _) (vx_cwSW 5 hts gL_law_L_bestGates rfl rfl rfl (by decide +kernel) ⟨Nat.le_of_ble_eq_true rfl, Nat.le_of_ble_eq_true rfl⟩) hm hw rfl hl.1 dL_law_1539 ⟨Nat.le_of_ble_eq_true rfl, Nat.le_of_ble_eq_true rfl⟩ (fun u H locs hu hw => ?_)
  refine lv_istore (lv' := [(5, .int 0), (0, .ref b), (1, .ref (a 0)), (2, .ref (a' 10)), (3, .ref o), (4, .int 0)]) hx hb dL_law_1542 hl (by decide) rfl (fun ls hl => ?_)
  refine lv_aload_n hx hb dL_law_1544 rfl (lv_at hl 3 rfl) ?_
  refine l_ld (k := 1) (v := nI n0) hx hb hX hbl hbA hw.2.2 (lv_at hl 1 rfl) (lv_at hl 5 rfl) hk1 (by decide) dL_law_1545 dL_law_1546 dL_law_1548 (by decide) dL_law_1549 dL_law_1550 ?_
  refine l_ld (k := 2) (v := xs 2) hx hb hX hbl hbA hw.2.2 (lv_at hl 1 rfl) (lv_at hl 5 rfl) rfl (by decide) dL_law_1551 dL_law_1552 dL_law_1554 (by decide) dL_law_1555 dL_law_1556 ?_
  refine l_ld (k := 3) (v := xs 3) hx hb hX hbl hbA hw.2.2 (lv_at hl 1 rfl) (lv_at hl 5 rfl) rfl (by decide) dL_law_1557 dL_law_1558 dL_law_1560 (by decide) dL_law_1561 dL_law_1562 ?_
  refine mc_i (mr_V (i := 10) (As := [.int (nI n0), .int (xs 2), .int (xs 3)]) (rest := []) ⟨hx, hb, hml, hown, hts⟩ (zX6_bestGates_4 l D a' cs' 12 (by omega) m_row0 (mFr_z fr0) (mFr_ar fr0) n0 hn.2 (xs 2) (xs 3) h0 g1 g2 _) (cwV 3 hts gL_law_X6_bestGates rfl rfl rfl (by decide +kernel) ⟨Nat.le_of_ble_eq_true rfl, Nat.le_of_ble_eq_true rfl⟩) hm.2.1 hm.2.2.2.2.1 hw (by omega) mE_o kcX6 rfl hl.1 (Nat.le_of_ble_eq_true rfl) dL_law_1563 ⟨Nat.le_of_ble_eq_true rfl, Nat.le_of_ble_eq_true rfl⟩) hw hA (fun H locs hw => ?_)
  refine lv_topi (fun v6 ev6 => ?_)
  refine lv_istore (lv' := [(6, .int v6), (5, .int 0), (0, .ref b), (1, .ref (a 0)), (2, .ref (a' 10)), (3, .ref o), (4, .int 0)]) hx hb dL_law_1566 hl (by decide) rfl (fun ls hl => ?_)
  refine lv_aload_n hx hb dL_law_1568 rfl (lv_at hl 4 rfl) ?_
  refine mc_i (mr_V (i := 10) (As := []) (rest := []) ⟨hx, hb, hml, hown, hts⟩ (zX6_thrown l D a' cs' 12 (by omega) _ _) (cwV 0 hts gL_law_X6_thrown rfl rfl rfl (by decide +kernel) ⟨Nat.le_of_ble_eq_true rfl, Nat.le_of_ble_eq_true rfl⟩) hm.2.1 hm.2.2.2.2.1 hw (by omega) mE_o kcX6 rfl hl.1 (Nat.le_of_ble_eq_true rfl) dL_law_1569 ⟨Nat.le_of_ble_eq_true rfl, Nat.le_of_ble_eq_true rfl⟩) hw hA (fun H locs hw => ?_)
  refine w_top0 (v := 0) (rfl) ?_
  refine lv_iload hx hb dL_law_1572 (lv_at hl 1 rfl) ?_
  refine lv_icmp_eq (tgt := 1579) hx hb dL_law_1574 (by decide) (fun _ => ?_) (fun c1 => absurd rfl c1)
  refine lv_iload hx hb dL_law_1579 (lv_at hl 1 rfl) ?_
  refine lv_if_ne (tgt := 1596) hx hb dL_law_1581 (by decide) (fun c1 => absurd rfl c1) (fun _ => ?_)
  refine lv_aload_n hx hb dL_law_1584 rfl (lv_at hl 5 rfl) ?_
  refine lv_iconst (v := 0) hx hb dL_law_1585 (by decide) ?_
  refine va_lald hx hb hm.2.2.1 hw.1 12 0 (by rw [show (12 : Nat) = 12 + 0 from rfl, mX_x]; rfl) rfl (vp_in_nI (n := 0) (by decide) (by decide)) dL_law_1586 ?_
  refine lv_iload hx hb dL_law_1587 (lv_at hl 0 rfl) ?_
  refine lv_i2l hx hb dL_law_1589 rfl ?_
  refine W.lcmp hx hb dL_law_1590 ?_
  refine lv_if_eq (tgt := 1596) hx hb dL_law_1591 (by decide) (fun _ => ?_) (fun c1 => absurd ((lg_cmp_eq _ _).mpr (hu.trans (congrArg Int32.toInt64 ((q_best cF_new (mFr_thr fr0) hn.2 (sum09 hx0 hx9 hy0 hy9).1 (sum09 hx0 hx9 hy0 hy9).2).trans ev6.symm)))) c1)
  refine lv_goto (tgt := 1793) hx hb dL_law_1596 (by decide) ?_
  refine W.widen (k := 600002) (n := 7302232) (Nat.le_of_ble_eq_true rfl) (Nat.le_of_ble_eq_true rfl) ?_
  exact l_fin C0 hw.2.2 (lv_sub hl [2, 6] rfl)
set_option maxHeartbeats 4000000 in
set_option maxRecDepth 100000 in
theorem ll_wouldBe_1 {p : Program} {e : Env} {s : State} {m : MethodId} {below : List Frame} {meth : Method} {c : Code} {l : Launch} (hst : l.stackTraces = false) {b : Nat} {xs : Nat → Int32} (C0 : lw_At p s m meth c b 5 xs) {D : va_G} {a : Nat → Nat} {cs : Nat → ClassId} {a' : Nat → Nat} {cs' : Nat → ClassId} {o : Nat} {cJ : ClassId} {fl : Nat → Int64} (hm : lM D cs cs' cJ s) {H : Heap} {locs : List Loc} (hw : lW D a cs a' cs' o cJ fl s H locs) {ls : Array Slot} (hl : lv_has ls 9 [(0, .ref b), (1, .ref (a 0)), (2, .ref (a' 10)), (3, .ref o), (4, .int 0)]) (hp : xs 1 < 5 ∨ ¬ xs 1 < 5 ∧ ¬ xs 1 < 8) (hp2 : g_X6_isNoPan (xs 1) = 1) : W p l e room_1 s m #[Value.ref b] below meth c H locs 47 402 (lw_Z below #[Value.ref b] s) (F0 m 1599 ls []) := by
  obtain ⟨hx, hb, hr, hml, hown, hts0, hX, hbl, hlocks, hgv⟩ := id C0
  have hts : ∀ w ∈ wsL_law, w.before #[Value.ref b] s = true := fun w h => hts0 w (wsL_law_in w h)
  have hown : s.vm.findClass RL = some m.cls := hown
  have hA : ∀ q, s.heap.size ≤ q → lA s q := fun _ h => h
  have hbA : ¬ lA s b := Nat.not_le.mpr hbl
  refine lv_aload_n hx hb dL_law_1599 rfl (lv_at hl 1 rfl) ?_
  refine l_ld (k := 1) (v := xs 1) hx hb hX hbl hbA hw.2.2 (lv_at hl 0 rfl) (lv_at hl 4 rfl) rfl (by decide) dL_law_1600 dL_law_1601 dL_law_1603 (by decide) dL_law_1604 dL_law_1605 ?_
  refine l_ld (k := 2) (v := xs 2) hx hb hX hbl hbA hw.2.2 (lv_at hl 0 rfl) (lv_at hl 4 rfl) rfl (by decide) dL_law_1606 dL_law_1607 dL_law_1609 (by decide) dL_law_1610 dL_law_1611 ?_
  refine l_bool hx hb dL_law_1612 dL_law_1615 dL_law_1616 dL_law_1619 ?_
  refine l_ld (k := 3) (v := xs 3) hx hb hX hbl hbA hw.2.2 (lv_at hl 0 rfl) (lv_at hl 4 rfl) rfl (by decide) dL_law_1620 dL_law_1621 dL_law_1623 (by decide) dL_law_1624 dL_law_1625 ?_
  refine lv_aload_n hx hb dL_law_1626 rfl (lv_at hl 3 rfl) ?_
  refine lh_x (As := [.ref (a 0), .int (xs 1), .int (g_X6_one (xs 2)), .int (xs 3), .ref o]) ⟨hx, hb, hml, hown, hts⟩ (zL_wouldBe_x1 l hst D a cs f_new o cJ fl (lW_so hw) (xs 1) hp (g_X6_one (xs 2)) (xs 3) _) (vx_cwSW 5 hts gL_law_L_wouldBe rfl rfl rfl (by decide +kernel) ⟨Nat.le_of_ble_eq_true rfl, Nat.le_of_ble_eq_true rfl⟩) hm hw rfl hl.1 dL_law_1627 ⟨Nat.le_of_ble_eq_true rfl, Nat.le_of_ble_eq_true rfl⟩ (fun H locs hw => ?_)
  refine lv_istore (lv' := [(5, .int 1), (0, .ref b), (1, .ref (a 0)), (2, .ref (a' 10)), (3, .ref o), (4, .int 0)]) hx hb dL_law_1630 hl (by decide) rfl (fun ls hl => ?_)
  refine lv_aload_n hx hb dL_law_1632 rfl (lv_at hl 3 rfl) ?_
  refine l_ld (k := 1) (v := xs 1) hx hb hX hbl hbA hw.2.2 (lv_at hl 1 rfl) (lv_at hl 5 rfl) rfl (by decide) dL_law_1633 dL_law_1634 dL_law_1636 (by decide) dL_law_1637 dL_law_1638 ?_
  refine l_ld (k := 2) (v := xs 2) hx hb hX hbl hbA hw.2.2 (lv_at hl 1 rfl) (lv_at hl 5 rfl) rfl (by decide) dL_law_1639 dL_law_1640 dL_law_1642 (by decide) dL_law_1643 dL_law_1644 ?_
  refine l_bool hx hb dL_law_1645 dL_law_1648 dL_law_1649 dL_law_1652 ?_
  refine l_ld (k := 3) (v := xs 3) hx hb hX hbl hbA hw.2.2 (lv_at hl 1 rfl) (lv_at hl 5 rfl) rfl (by decide) dL_law_1653 dL_law_1654 dL_law_1656 (by decide) dL_law_1657 dL_law_1658 ?_
  refine mc_i (mr_V (i := 10) (As := [.int (xs 1), .int (g_X6_one (xs 2)), .int (xs 3)]) (rest := []) ⟨hx, hb, hml, hown, hts⟩ (zX6_wouldBe_1 l D a' cs' 12 (by omega) m_row0 fr0.2.2.2.2.2.2 (xs 1) (g_X6_one (xs 2)) (xs 3) hp2 _) (cwV 3 hts gL_law_X6_wouldBe rfl rfl rfl (by decide +kernel) ⟨Nat.le_of_ble_eq_true rfl, Nat.le_of_ble_eq_true rfl⟩) hm.2.1 hm.2.2.2.2.1 hw (by omega) mE_o kcX6 rfl hl.1 (Nat.le_of_ble_eq_true rfl) dL_law_1659 ⟨Nat.le_of_ble_eq_true rfl, Nat.le_of_ble_eq_true rfl⟩) hw hA (fun H locs hw => ?_)
  refine lv_topi (fun v6 ev6 => ?_)
  refine lv_istore (lv' := [(6, .int v6), (5, .int 1), (0, .ref b), (1, .ref (a 0)), (2, .ref (a' 10)), (3, .ref o), (4, .int 0)]) hx hb dL_law_1662 hl (by decide) rfl (fun ls hl => ?_)
  refine lv_aload_n hx hb dL_law_1664 rfl (lv_at hl 4 rfl) ?_
  refine mc_i (mr_V (i := 10) (As := []) (rest := []) ⟨hx, hb, hml, hown, hts⟩ (zX6_thrown l D a' cs' 12 (by omega) _ _) (cwV 0 hts gL_law_X6_thrown rfl rfl rfl (by decide +kernel) ⟨Nat.le_of_ble_eq_true rfl, Nat.le_of_ble_eq_true rfl⟩) hm.2.1 hm.2.2.2.2.1 hw (by omega) mE_o kcX6 rfl hl.1 (Nat.le_of_ble_eq_true rfl) dL_law_1665 ⟨Nat.le_of_ble_eq_true rfl, Nat.le_of_ble_eq_true rfl⟩) hw hA (fun H locs hw => ?_)
  refine w_top0 (v := 1) (rfl) ?_
  refine lv_iload hx hb dL_law_1668 (lv_at hl 1 rfl) ?_
  refine lv_icmp_eq (tgt := 1675) hx hb dL_law_1670 (by decide) (fun _ => ?_) (fun c1 => absurd rfl c1)
  refine lv_iload hx hb dL_law_1675 (lv_at hl 1 rfl) ?_
  refine lv_if_ne (tgt := 1692) hx hb dL_law_1677 (by decide) (fun _ => ?_) (fun c1 => absurd c1 (by decide))
  refine lv_goto (tgt := 1793) hx hb dL_law_1692 (by decide) ?_
  refine W.widen (k := 600002) (n := 7302232) (Nat.le_of_ble_eq_true rfl) (Nat.le_of_ble_eq_true rfl) ?_
  exact l_fin C0 hw.2.2 (lv_sub hl [2, 6] rfl)
set_option maxHeartbeats 4000000 in
set_option maxRecDepth 100000 in
theorem ll_wouldBe_2 {p : Program} {e : Env} {s : State} {m : MethodId} {below : List Frame} {meth : Method} {c : Code} {l : Launch} (hst : l.stackTraces = false) {b : Nat} {xs : Nat → Int32} (C0 : lw_At p s m meth c b 5 xs) {D : va_G} {a : Nat → Nat} {cs : Nat → ClassId} {a' : Nat → Nat} {cs' : Nat → ClassId} {o : Nat} {cJ : ClassId} {fl : Nat → Int64} (hm : lM D cs cs' cJ s) {H : Heap} {locs : List Loc} (hw : lW D a cs a' cs' o cJ fl s H locs) {ls : Array Slot} (hl : lv_has ls 9 [(0, .ref b), (1, .ref (a 0)), (2, .ref (a' 10)), (3, .ref o), (4, .int 0)]) (q : Nat) (hq : q < 3) (hk1 : xs 1 = nI (5 + q)) (hp : xs 3 < 0 ∨ ¬ xs 3 < 0 ∧ ¬ xs 3 < f_new 0 3) : W p l e room_1 s m #[Value.ref b] below meth c H locs 47 402 (lw_Z below #[Value.ref b] s) (F0 m 1599 ls []) := by
  obtain ⟨hx, hb, hr, hml, hown, hts0, hX, hbl, hlocks, hgv⟩ := id C0
  have hts : ∀ w ∈ wsL_law, w.before #[Value.ref b] s = true := fun w h => hts0 w (wsL_law_in w h)
  have hown : s.vm.findClass RL = some m.cls := hown
  have hA : ∀ q, s.heap.size ≤ q → lA s q := fun _ h => h
  have hbA : ¬ lA s b := Nat.not_le.mpr hbl
  refine lv_aload_n hx hb dL_law_1599 rfl (lv_at hl 1 rfl) ?_
  refine l_ld (k := 1) (v := nI (5 + q)) hx hb hX hbl hbA hw.2.2 (lv_at hl 0 rfl) (lv_at hl 4 rfl) hk1 (by decide) dL_law_1600 dL_law_1601 dL_law_1603 (by decide) dL_law_1604 dL_law_1605 ?_
  refine l_ld (k := 2) (v := xs 2) hx hb hX hbl hbA hw.2.2 (lv_at hl 0 rfl) (lv_at hl 4 rfl) rfl (by decide) dL_law_1606 dL_law_1607 dL_law_1609 (by decide) dL_law_1610 dL_law_1611 ?_
  refine l_bool hx hb dL_law_1612 dL_law_1615 dL_law_1616 dL_law_1619 ?_
  refine l_ld (k := 3) (v := xs 3) hx hb hX hbl hbA hw.2.2 (lv_at hl 0 rfl) (lv_at hl 4 rfl) rfl (by decide) dL_law_1620 dL_law_1621 dL_law_1623 (by decide) dL_law_1624 dL_law_1625 ?_
  refine lv_aload_n hx hb dL_law_1626 rfl (lv_at hl 3 rfl) ?_
  refine lh_x (As := [.ref (a 0), .int (nI (5 + q)), .int (g_X6_one (xs 2)), .int (xs 3), .ref o]) ⟨hx, hb, hml, hown, hts⟩ (zL_wouldBe_x2 l hst D a cs f_new o cJ fl (lW_so hw) q hq (xs 3) hp (g_X6_one (xs 2)) _) (vx_cwSW 5 hts gL_law_L_wouldBe rfl rfl rfl (by decide +kernel) ⟨Nat.le_of_ble_eq_true rfl, Nat.le_of_ble_eq_true rfl⟩) hm hw rfl hl.1 dL_law_1627 ⟨Nat.le_of_ble_eq_true rfl, Nat.le_of_ble_eq_true rfl⟩ (fun H locs hw => ?_)
  refine lv_istore (lv' := [(5, .int 1), (0, .ref b), (1, .ref (a 0)), (2, .ref (a' 10)), (3, .ref o), (4, .int 0)]) hx hb dL_law_1630 hl (by decide) rfl (fun ls hl => ?_)
  refine lv_aload_n hx hb dL_law_1632 rfl (lv_at hl 3 rfl) ?_
  refine l_ld (k := 1) (v := nI (5 + q)) hx hb hX hbl hbA hw.2.2 (lv_at hl 1 rfl) (lv_at hl 5 rfl) hk1 (by decide) dL_law_1633 dL_law_1634 dL_law_1636 (by decide) dL_law_1637 dL_law_1638 ?_
  refine l_ld (k := 2) (v := xs 2) hx hb hX hbl hbA hw.2.2 (lv_at hl 1 rfl) (lv_at hl 5 rfl) rfl (by decide) dL_law_1639 dL_law_1640 dL_law_1642 (by decide) dL_law_1643 dL_law_1644 ?_
  refine l_bool hx hb dL_law_1645 dL_law_1648 dL_law_1649 dL_law_1652 ?_
  refine l_ld (k := 3) (v := xs 3) hx hb hX hbl hbA hw.2.2 (lv_at hl 1 rfl) (lv_at hl 5 rfl) rfl (by decide) dL_law_1653 dL_law_1654 dL_law_1656 (by decide) dL_law_1657 dL_law_1658 ?_
  refine mc_i (mr_V (i := 10) (As := [.int (nI (5 + q)), .int (g_X6_one (xs 2)), .int (xs 3)]) (rest := []) ⟨hx, hb, hml, hown, hts⟩ (zX6_wouldBe_2 l D a' cs' 12 (by omega) m_row0 fr0.2.2.2.2.2.2 q hq (g_X6_one (xs 2)) (xs 3) _) (cwV 3 hts gL_law_X6_wouldBe rfl rfl rfl (by decide +kernel) ⟨Nat.le_of_ble_eq_true rfl, Nat.le_of_ble_eq_true rfl⟩) hm.2.1 hm.2.2.2.2.1 hw (by omega) mE_o kcX6 rfl hl.1 (Nat.le_of_ble_eq_true rfl) dL_law_1659 ⟨Nat.le_of_ble_eq_true rfl, Nat.le_of_ble_eq_true rfl⟩) hw hA (fun H locs hw => ?_)
  refine lv_topi (fun v6 ev6 => ?_)
  refine lv_istore (lv' := [(6, .int v6), (5, .int 1), (0, .ref b), (1, .ref (a 0)), (2, .ref (a' 10)), (3, .ref o), (4, .int 0)]) hx hb dL_law_1662 hl (by decide) rfl (fun ls hl => ?_)
  refine lv_aload_n hx hb dL_law_1664 rfl (lv_at hl 4 rfl) ?_
  refine mc_i (mr_V (i := 10) (As := []) (rest := []) ⟨hx, hb, hml, hown, hts⟩ (zX6_thrown l D a' cs' 12 (by omega) _ _) (cwV 0 hts gL_law_X6_thrown rfl rfl rfl (by decide +kernel) ⟨Nat.le_of_ble_eq_true rfl, Nat.le_of_ble_eq_true rfl⟩) hm.2.1 hm.2.2.2.2.1 hw (by omega) mE_o kcX6 rfl hl.1 (Nat.le_of_ble_eq_true rfl) dL_law_1665 ⟨Nat.le_of_ble_eq_true rfl, Nat.le_of_ble_eq_true rfl⟩) hw hA (fun H locs hw => ?_)
  refine w_top0 (v := 1) (rfl) ?_
  refine lv_iload hx hb dL_law_1668 (lv_at hl 1 rfl) ?_
  refine lv_icmp_eq (tgt := 1675) hx hb dL_law_1670 (by decide) (fun _ => ?_) (fun c1 => absurd rfl c1)
  refine lv_iload hx hb dL_law_1675 (lv_at hl 1 rfl) ?_
  refine lv_if_ne (tgt := 1692) hx hb dL_law_1677 (by decide) (fun _ => ?_) (fun c1 => absurd c1 (by decide))
  refine lv_goto (tgt := 1793) hx hb dL_law_1692 (by decide) ?_
  refine W.widen (k := 600002) (n := 7302232) (Nat.le_of_ble_eq_true rfl) (Nat.le_of_ble_eq_true rfl) ?_
  exact l_fin C0 hw.2.2 (lv_sub hl [2, 6] rfl)
set_option maxHeartbeats 4000000 in
set_option maxRecDepth 100000 in
theorem ll_tideOn_1 {p : Program} {e : Env} {s : State} {m : MethodId} {below : List Frame} {meth : Method} {c : Code} {l : Launch} (hst : l.stackTraces = false) {b : Nat} {xs : Nat → Int32} (C0 : lw_At p s m meth c b 5 xs) {D : va_G} {a : Nat → Nat} {cs : Nat → ClassId} {a' : Nat → Nat} {cs' : Nat → ClassId} {o : Nat} {cJ : ClassId} {fl : Nat → Int64} (hm : lM D cs cs' cJ s) {H : Heap} {locs : List Loc} (hw : lW D a cs a' cs' o cJ fl s H locs) {ls : Array Slot} (hl : lv_has ls 9 [(0, .ref b), (1, .ref (a 0)), (2, .ref (a' 10)), (3, .ref o), (4, .int 0)]) (h1 : xs 1 < 0) (hy : g_X6_isIn (xs 1) 0 20 = 0) : W p l e room_1 s m #[Value.ref b] below meth c H locs 47 402 (lw_Z below #[Value.ref b] s) (F0 m 1695 ls []) := by
  obtain ⟨hx, hb, hr, hml, hown, hts0, hX, hbl, hlocks, hgv⟩ := id C0
  have hts : ∀ w ∈ wsL_law, w.before #[Value.ref b] s = true := fun w h => hts0 w (wsL_law_in w h)
  have hown : s.vm.findClass RL = some m.cls := hown
  have hA : ∀ q, s.heap.size ≤ q → lA s q := fun _ h => h
  have hbA : ¬ lA s b := Nat.not_le.mpr hbl
  refine lv_aload_n hx hb dL_law_1695 rfl (lv_at hl 1 rfl) ?_
  refine l_ld (k := 1) (v := xs 1) hx hb hX hbl hbA hw.2.2 (lv_at hl 0 rfl) (lv_at hl 4 rfl) rfl (by decide) dL_law_1696 dL_law_1697 dL_law_1699 (by decide) dL_law_1700 dL_law_1701 ?_
  refine l_ld (k := 2) (v := xs 2) hx hb hX hbl hbA hw.2.2 (lv_at hl 0 rfl) (lv_at hl 4 rfl) rfl (by decide) dL_law_1702 dL_law_1703 dL_law_1705 (by decide) dL_law_1706 dL_law_1707 ?_
  refine l_bool hx hb dL_law_1708 dL_law_1711 dL_law_1712 dL_law_1715 ?_
  refine lv_aload_n hx hb dL_law_1716 rfl (lv_at hl 3 rfl) ?_
  refine lh_x (As := [.ref (a 0), .int (xs 1), .int (g_X6_one (xs 2)), .ref o]) ⟨hx, hb, hml, hown, hts⟩ (zL_tideOn_x1 l hst D a cs f_new o cJ fl (lW_so hw) (xs 1) (g_X6_one (xs 2)) h1 _) (vx_cwSW 4 hts gL_law_L_tideOn rfl rfl rfl (by decide +kernel) ⟨Nat.le_of_ble_eq_true rfl, Nat.le_of_ble_eq_true rfl⟩) hm hw rfl hl.1 dL_law_1717 ⟨Nat.le_of_ble_eq_true rfl, Nat.le_of_ble_eq_true rfl⟩ (fun H locs hw => ?_)
  refine lv_istore (lv' := [(5, .int 1), (0, .ref b), (1, .ref (a 0)), (2, .ref (a' 10)), (3, .ref o), (4, .int 0)]) hx hb dL_law_1720 hl (by decide) rfl (fun ls hl => ?_)
  refine lv_aload_n hx hb dL_law_1722 rfl (lv_at hl 3 rfl) ?_
  refine l_ld (k := 1) (v := xs 1) hx hb hX hbl hbA hw.2.2 (lv_at hl 1 rfl) (lv_at hl 5 rfl) rfl (by decide) dL_law_1723 dL_law_1724 dL_law_1726 (by decide) dL_law_1727 dL_law_1728 ?_
  refine l_ld (k := 2) (v := xs 2) hx hb hX hbl hbA hw.2.2 (lv_at hl 1 rfl) (lv_at hl 5 rfl) rfl (by decide) dL_law_1729 dL_law_1730 dL_law_1732 (by decide) dL_law_1733 dL_law_1734 ?_
  refine l_bool hx hb dL_law_1735 dL_law_1738 dL_law_1739 dL_law_1742 ?_
  refine mc_i (mr_V (i := 10) (As := [.int (xs 1), .int (g_X6_one (xs 2))]) (rest := []) ⟨hx, hb, hml, hown, hts⟩ (zX6_tideOn_1 l D a' cs' 12 (by omega) m_row0 (xs 1) (g_X6_one (xs 2)) hy _) (cwV 2 hts gL_law_X6_tideOn rfl rfl rfl (by decide +kernel) ⟨Nat.le_of_ble_eq_true rfl, Nat.le_of_ble_eq_true rfl⟩) hm.2.1 hm.2.2.2.2.1 hw (by omega) mE_o kcX6 rfl hl.1 (Nat.le_of_ble_eq_true rfl) dL_law_1743 ⟨Nat.le_of_ble_eq_true rfl, Nat.le_of_ble_eq_true rfl⟩) hw hA (fun H locs hw => ?_)
  refine lv_topi (fun v6 ev6 => ?_)
  refine lv_istore (lv' := [(6, .int v6), (5, .int 1), (0, .ref b), (1, .ref (a 0)), (2, .ref (a' 10)), (3, .ref o), (4, .int 0)]) hx hb dL_law_1746 hl (by decide) rfl (fun ls hl => ?_)
  refine lv_aload_n hx hb dL_law_1748 rfl (lv_at hl 4 rfl) ?_
  refine mc_i (mr_V (i := 10) (As := []) (rest := []) ⟨hx, hb, hml, hown, hts⟩ (zX6_thrown l D a' cs' 12 (by omega) _ _) (cwV 0 hts gL_law_X6_thrown rfl rfl rfl (by decide +kernel) ⟨Nat.le_of_ble_eq_true rfl, Nat.le_of_ble_eq_true rfl⟩) hm.2.1 hm.2.2.2.2.1 hw (by omega) mE_o kcX6 rfl hl.1 (Nat.le_of_ble_eq_true rfl) dL_law_1749 ⟨Nat.le_of_ble_eq_true rfl, Nat.le_of_ble_eq_true rfl⟩) hw hA (fun H locs hw => ?_)
  refine w_top0 (v := 1) (rfl) ?_
  refine lv_iload hx hb dL_law_1752 (lv_at hl 1 rfl) ?_
  refine lv_icmp_eq (tgt := 1759) hx hb dL_law_1754 (by decide) (fun _ => ?_) (fun c1 => absurd rfl c1)
  refine lv_iload hx hb dL_law_1759 (lv_at hl 1 rfl) ?_
  refine lv_if_ne (tgt := 1776) hx hb dL_law_1761 (by decide) (fun _ => ?_) (fun c1 => absurd c1 (by decide))
  refine lv_goto (tgt := 1793) hx hb dL_law_1776 (by decide) ?_
  refine W.widen (k := 600002) (n := 7302232) (Nat.le_of_ble_eq_true rfl) (Nat.le_of_ble_eq_true rfl) ?_
  exact l_fin C0 hw.2.2 (lv_sub hl [2, 6] rfl)
set_option maxHeartbeats 4000000 in
set_option maxRecDepth 100000 in
theorem ll_tideOn_2 {p : Program} {e : Env} {s : State} {m : MethodId} {below : List Frame} {meth : Method} {c : Code} {l : Launch} (hst : l.stackTraces = false) {b : Nat} {xs : Nat → Int32} (C0 : lw_At p s m meth c b 5 xs) {D : va_G} {a : Nat → Nat} {cs : Nat → ClassId} {a' : Nat → Nat} {cs' : Nat → ClassId} {o : Nat} {cJ : ClassId} {fl : Nat → Int64} (hm : lM D cs cs' cJ s) {H : Heap} {locs : List Loc} (hw : lW D a cs a' cs' o cJ fl s H locs) {ls : Array Slot} (hl : lv_has ls 9 [(0, .ref b), (1, .ref (a 0)), (2, .ref (a' 10)), (3, .ref o), (4, .int 0)]) (h1 : ¬ xs 1 < 0) (h2 : ¬ xs 1 ≤ 20) (hy : g_X6_isIn (xs 1) 0 20 = 0) : W p l e room_1 s m #[Value.ref b] below meth c H locs 47 402 (lw_Z below #[Value.ref b] s) (F0 m 1695 ls []) := by
  obtain ⟨hx, hb, hr, hml, hown, hts0, hX, hbl, hlocks, hgv⟩ := id C0
  have hts : ∀ w ∈ wsL_law, w.before #[Value.ref b] s = true := fun w h => hts0 w (wsL_law_in w h)
  have hown : s.vm.findClass RL = some m.cls := hown
  have hA : ∀ q, s.heap.size ≤ q → lA s q := fun _ h => h
  have hbA : ¬ lA s b := Nat.not_le.mpr hbl
  refine lv_aload_n hx hb dL_law_1695 rfl (lv_at hl 1 rfl) ?_
  refine l_ld (k := 1) (v := xs 1) hx hb hX hbl hbA hw.2.2 (lv_at hl 0 rfl) (lv_at hl 4 rfl) rfl (by decide) dL_law_1696 dL_law_1697 dL_law_1699 (by decide) dL_law_1700 dL_law_1701 ?_
  refine l_ld (k := 2) (v := xs 2) hx hb hX hbl hbA hw.2.2 (lv_at hl 0 rfl) (lv_at hl 4 rfl) rfl (by decide) dL_law_1702 dL_law_1703 dL_law_1705 (by decide) dL_law_1706 dL_law_1707 ?_
  refine l_bool hx hb dL_law_1708 dL_law_1711 dL_law_1712 dL_law_1715 ?_
  refine lv_aload_n hx hb dL_law_1716 rfl (lv_at hl 3 rfl) ?_
  refine lh_x (As := [.ref (a 0), .int (xs 1), .int (g_X6_one (xs 2)), .ref o]) ⟨hx, hb, hml, hown, hts⟩ (zL_tideOn_x2 l hst D a cs f_new o cJ fl (lW_so hw) (xs 1) (g_X6_one (xs 2)) h1 h2 _) (vx_cwSW 4 hts gL_law_L_tideOn rfl rfl rfl (by decide +kernel) ⟨Nat.le_of_ble_eq_true rfl, Nat.le_of_ble_eq_true rfl⟩) hm hw rfl hl.1 dL_law_1717 ⟨Nat.le_of_ble_eq_true rfl, Nat.le_of_ble_eq_true rfl⟩ (fun H locs hw => ?_)
  refine lv_istore (lv' := [(5, .int 1), (0, .ref b), (1, .ref (a 0)), (2, .ref (a' 10)), (3, .ref o), (4, .int 0)]) hx hb dL_law_1720 hl (by decide) rfl (fun ls hl => ?_)
  refine lv_aload_n hx hb dL_law_1722 rfl (lv_at hl 3 rfl) ?_
  refine l_ld (k := 1) (v := xs 1) hx hb hX hbl hbA hw.2.2 (lv_at hl 1 rfl) (lv_at hl 5 rfl) rfl (by decide) dL_law_1723 dL_law_1724 dL_law_1726 (by decide) dL_law_1727 dL_law_1728 ?_
  refine l_ld (k := 2) (v := xs 2) hx hb hX hbl hbA hw.2.2 (lv_at hl 1 rfl) (lv_at hl 5 rfl) rfl (by decide) dL_law_1729 dL_law_1730 dL_law_1732 (by decide) dL_law_1733 dL_law_1734 ?_
  refine l_bool hx hb dL_law_1735 dL_law_1738 dL_law_1739 dL_law_1742 ?_
  refine mc_i (mr_V (i := 10) (As := [.int (xs 1), .int (g_X6_one (xs 2))]) (rest := []) ⟨hx, hb, hml, hown, hts⟩ (zX6_tideOn_1 l D a' cs' 12 (by omega) m_row0 (xs 1) (g_X6_one (xs 2)) hy _) (cwV 2 hts gL_law_X6_tideOn rfl rfl rfl (by decide +kernel) ⟨Nat.le_of_ble_eq_true rfl, Nat.le_of_ble_eq_true rfl⟩) hm.2.1 hm.2.2.2.2.1 hw (by omega) mE_o kcX6 rfl hl.1 (Nat.le_of_ble_eq_true rfl) dL_law_1743 ⟨Nat.le_of_ble_eq_true rfl, Nat.le_of_ble_eq_true rfl⟩) hw hA (fun H locs hw => ?_)
  refine lv_topi (fun v6 ev6 => ?_)
  refine lv_istore (lv' := [(6, .int v6), (5, .int 1), (0, .ref b), (1, .ref (a 0)), (2, .ref (a' 10)), (3, .ref o), (4, .int 0)]) hx hb dL_law_1746 hl (by decide) rfl (fun ls hl => ?_)
  refine lv_aload_n hx hb dL_law_1748 rfl (lv_at hl 4 rfl) ?_
  refine mc_i (mr_V (i := 10) (As := []) (rest := []) ⟨hx, hb, hml, hown, hts⟩ (zX6_thrown l D a' cs' 12 (by omega) _ _) (cwV 0 hts gL_law_X6_thrown rfl rfl rfl (by decide +kernel) ⟨Nat.le_of_ble_eq_true rfl, Nat.le_of_ble_eq_true rfl⟩) hm.2.1 hm.2.2.2.2.1 hw (by omega) mE_o kcX6 rfl hl.1 (Nat.le_of_ble_eq_true rfl) dL_law_1749 ⟨Nat.le_of_ble_eq_true rfl, Nat.le_of_ble_eq_true rfl⟩) hw hA (fun H locs hw => ?_)
  refine w_top0 (v := 1) (rfl) ?_
  refine lv_iload hx hb dL_law_1752 (lv_at hl 1 rfl) ?_
  refine lv_icmp_eq (tgt := 1759) hx hb dL_law_1754 (by decide) (fun _ => ?_) (fun c1 => absurd rfl c1)
  refine lv_iload hx hb dL_law_1759 (lv_at hl 1 rfl) ?_
  refine lv_if_ne (tgt := 1776) hx hb dL_law_1761 (by decide) (fun _ => ?_) (fun c1 => absurd c1 (by decide))
  refine lv_goto (tgt := 1793) hx hb dL_law_1776 (by decide) ?_
  refine W.widen (k := 600002) (n := 7302232) (Nat.le_of_ble_eq_true rfl) (Nat.le_of_ble_eq_true rfl) ?_
  exact l_fin C0 hw.2.2 (lv_sub hl [2, 6] rfl)
set_option maxHeartbeats 4000000 in
set_option maxRecDepth 100000 in
theorem ll_tideOn_3 {p : Program} {e : Env} {s : State} {m : MethodId} {below : List Frame} {meth : Method} {c : Code} {l : Launch} (hst : l.stackTraces = false) {b : Nat} {xs : Nat → Int32} (C0 : lw_At p s m meth c b 5 xs) {D : va_G} {a : Nat → Nat} {cs : Nat → ClassId} {a' : Nat → Nat} {cs' : Nat → ClassId} {o : Nat} {cJ : ClassId} {fl : Nat → Int64} (hm : lM D cs cs' cJ s) {H : Heap} {locs : List Loc} (hw : lW D a cs a' cs' o cJ fl s H locs) {ls : Array Slot} (hl : lv_has ls 9 [(0, .ref b), (1, .ref (a 0)), (2, .ref (a' 10)), (3, .ref o), (4, .int 0)]) (h1 : ¬ xs 1 < 0) (h2 : xs 1 ≤ 20) (hy : g_X6_isIn (xs 1) 0 20 = 1) : W p l e room_1 s m #[Value.ref b] below meth c H locs 47 402 (lw_Z below #[Value.ref b] s) (F0 m 1695 ls []) := by
  obtain ⟨hx, hb, hr, hml, hown, hts0, hX, hbl, hlocks, hgv⟩ := id C0
  have hts : ∀ w ∈ wsL_law, w.before #[Value.ref b] s = true := fun w h => hts0 w (wsL_law_in w h)
  have hown : s.vm.findClass RL = some m.cls := hown
  have hA : ∀ q, s.heap.size ≤ q → lA s q := fun _ h => h
  have hbA : ¬ lA s b := Nat.not_le.mpr hbl
  refine lv_aload_n hx hb dL_law_1695 rfl (lv_at hl 1 rfl) ?_
  refine l_ld (k := 1) (v := xs 1) hx hb hX hbl hbA hw.2.2 (lv_at hl 0 rfl) (lv_at hl 4 rfl) rfl (by decide) dL_law_1696 dL_law_1697 dL_law_1699 (by decide) dL_law_1700 dL_law_1701 ?_
  refine l_ld (k := 2) (v := xs 2) hx hb hX hbl hbA hw.2.2 (lv_at hl 0 rfl) (lv_at hl 4 rfl) rfl (by decide) dL_law_1702 dL_law_1703 dL_law_1705 (by decide) dL_law_1706 dL_law_1707 ?_
  refine l_bool hx hb dL_law_1708 dL_law_1711 dL_law_1712 dL_law_1715 ?_
  refine lv_aload_n hx hb dL_law_1716 rfl (lv_at hl 3 rfl) ?_
  refine lh_n (As := [.ref (a 0), .int (xs 1), .int (g_X6_one (xs 2)), .ref o]) ⟨hx, hb, hml, hown, hts⟩ (zL_tideOn_n l hst D a cs f_new o cJ fl (lW_so hw) (xs 1) (g_X6_one (xs 2)) h1 h2 _) (vx_cwSW 4 hts gL_law_L_tideOn rfl rfl rfl (by decide +kernel) ⟨Nat.le_of_ble_eq_true rfl, Nat.le_of_ble_eq_true rfl⟩) hm hw rfl hl.1 dL_law_1717 ⟨Nat.le_of_ble_eq_true rfl, Nat.le_of_ble_eq_true rfl⟩ (fun u H locs hu hw => ?_)
  refine lv_istore (lv' := [(5, .int 0), (0, .ref b), (1, .ref (a 0)), (2, .ref (a' 10)), (3, .ref o), (4, .int 0)]) hx hb dL_law_1720 hl (by decide) rfl (fun ls hl => ?_)
  refine lv_aload_n hx hb dL_law_1722 rfl (lv_at hl 3 rfl) ?_
  refine l_ld (k := 1) (v := xs 1) hx hb hX hbl hbA hw.2.2 (lv_at hl 1 rfl) (lv_at hl 5 rfl) rfl (by decide) dL_law_1723 dL_law_1724 dL_law_1726 (by decide) dL_law_1727 dL_law_1728 ?_
  refine l_ld (k := 2) (v := xs 2) hx hb hX hbl hbA hw.2.2 (lv_at hl 1 rfl) (lv_at hl 5 rfl) rfl (by decide) dL_law_1729 dL_law_1730 dL_law_1732 (by decide) dL_law_1733 dL_law_1734 ?_
  refine l_bool hx hb dL_law_1735 dL_law_1738 dL_law_1739 dL_law_1742 ?_
  refine mc_i (mr_V (i := 10) (As := [.int (xs 1), .int (g_X6_one (xs 2))]) (rest := []) ⟨hx, hb, hml, hown, hts⟩ (zX6_tideOn_2 l D a' cs' 12 (by omega) m_row0 rfl (xs 1) (g_X6_one (xs 2)) hy _) (cwV 2 hts gL_law_X6_tideOn rfl rfl rfl (by decide +kernel) ⟨Nat.le_of_ble_eq_true rfl, Nat.le_of_ble_eq_true rfl⟩) hm.2.1 hm.2.2.2.2.1 hw (by omega) mE_o kcX6 rfl hl.1 (Nat.le_of_ble_eq_true rfl) dL_law_1743 ⟨Nat.le_of_ble_eq_true rfl, Nat.le_of_ble_eq_true rfl⟩) hw hA (fun H locs hw => ?_)
  refine lv_topi (fun v6 ev6 => ?_)
  refine lv_istore (lv' := [(6, .int v6), (5, .int 0), (0, .ref b), (1, .ref (a 0)), (2, .ref (a' 10)), (3, .ref o), (4, .int 0)]) hx hb dL_law_1746 hl (by decide) rfl (fun ls hl => ?_)
  refine lv_aload_n hx hb dL_law_1748 rfl (lv_at hl 4 rfl) ?_
  refine mc_i (mr_V (i := 10) (As := []) (rest := []) ⟨hx, hb, hml, hown, hts⟩ (zX6_thrown l D a' cs' 12 (by omega) _ _) (cwV 0 hts gL_law_X6_thrown rfl rfl rfl (by decide +kernel) ⟨Nat.le_of_ble_eq_true rfl, Nat.le_of_ble_eq_true rfl⟩) hm.2.1 hm.2.2.2.2.1 hw (by omega) mE_o kcX6 rfl hl.1 (Nat.le_of_ble_eq_true rfl) dL_law_1749 ⟨Nat.le_of_ble_eq_true rfl, Nat.le_of_ble_eq_true rfl⟩) hw hA (fun H locs hw => ?_)
  refine w_top0 (v := 0) (rfl) ?_
  refine lv_iload hx hb dL_law_1752 (lv_at hl 1 rfl) ?_
  refine lv_icmp_eq (tgt := 1759) hx hb dL_law_1754 (by decide) (fun _ => ?_) (fun c1 => absurd rfl c1)
  refine lv_iload hx hb dL_law_1759 (lv_at hl 1 rfl) ?_
  refine lv_if_ne (tgt := 1776) hx hb dL_law_1761 (by decide) (fun c1 => absurd rfl c1) (fun _ => ?_)
  refine lv_aload_n hx hb dL_law_1764 rfl (lv_at hl 5 rfl) ?_
  refine lv_iconst (v := 0) hx hb dL_law_1765 (by decide) ?_
  refine va_lald hx hb hm.2.2.1 hw.1 12 0 (by rw [show (12 : Nat) = 12 + 0 from rfl, mX_x]; rfl) rfl (vp_in_nI (n := 0) (by decide) (by decide)) dL_law_1766 ?_
  refine lv_iload hx hb dL_law_1767 (lv_at hl 0 rfl) ?_
  refine lv_i2l hx hb dL_law_1769 rfl ?_
  refine W.lcmp hx hb dL_law_1770 ?_
  refine lv_if_eq (tgt := 1776) hx hb dL_law_1771 (by decide) (fun _ => ?_) (fun c1 => absurd ((lg_cmp_eq _ _).mpr (hu.trans (congrArg Int32.toInt64 ((q_tideOn cF_new (xs 1) (g_X6_one (xs 2))).trans ev6.symm)))) c1)
  refine lv_goto (tgt := 1793) hx hb dL_law_1776 (by decide) ?_
  refine W.widen (k := 600002) (n := 7302232) (Nat.le_of_ble_eq_true rfl) (Nat.le_of_ble_eq_true rfl) ?_
  exact l_fin C0 hw.2.2 (lv_sub hl [2, 6] rfl)
