/-! The law's world: the object's 34 cells, the law's own arrays of ints behind them. -/
abbrev lA (s : State) : Nat → Prop := fun q => s.heap.size ≤ q
def lH (D : va_G) (a : Nat → Nat) (cs : Nat → ClassId) (w : va_W) (A : Nat → Prop) (H0 : Heap) (σ : sS) (H : Heap) (locs : List Loc) : Prop := va_P D vwCl (sW a cs σ ++ w) H ∧ va_D A (sW a cs σ ++ w) ∧ va_S A H0 H locs
theorem lx_at {a : Nat → Nat} {cs : Nat → ClassId} {σ : sS} {w : va_W} {j : Nat} {q : Nat × va_E} (h : w[j]? = some q) : (sW a cs σ ++ w)[34 + j]? = some q := by
  rw [List.getElem?_append_right (by rw [sW_len]; omega), sW_len, Nat.add_sub_cancel_left]
  exact h
theorem lx_pre {a : Nat → Nat} {cs : Nat → ClassId} {σ : sS} {w : va_W} {k : Nat} {q : Nat × va_E} (h : (sW a cs σ)[k]? = some q) : (sW a cs σ ++ w)[k]? = some q := by
  rw [List.getElem?_append_left (List.getElem?_eq_some_iff.mp h).1]
  exact h
theorem lx_set {a : Nat → Nat} {cs : Nat → ClassId} {σ : sS} {w : va_W} {j : Nat} {q : Nat × va_E} : (sW a cs σ ++ w).set (34 + j) q = sW a cs σ ++ w.set j q := by
  rw [List.set_append_right _ _ (by rw [sW_len]; omega), sW_len, Nat.add_sub_cancel_left]
section LW
variable {D : va_G} {a : Nat → Nat} {cs : Nat → ClassId} {w : va_W} {A : Nat → Prop} {H0 : Heap} {σ σ' : sS} {H H1 : Heap} {locs locs1 : List Loc}
theorem lH_s (hw : lH D a cs w A H0 σ H locs) : sH D a cs A H0 σ H locs := ⟨fun k q hk => hw.1 k q (lx_pre hk), ⟨fun i j x y hx hy e => hw.2.1.1 i j x y (lx_pre hx) (lx_pre hy) e, fun k q hk => hw.2.1.2 k q (lx_pre hk)⟩, hw.2.2⟩
theorem lH_w (hw : lH D a cs w A H0 σ H locs) : va_P D vwCl w H := fun k q hk => hw.1 (34 + k) q (lx_at hk)
theorem lH_D (hw : lH D a cs w A H0 σ H locs) : va_D A w := ⟨fun i j x y hx hy e => by have := hw.2.1.1 _ _ x y (lx_at hx) (lx_at hy) e; omega, fun k q hk => hw.2.1.2 _ q (lx_at hk)⟩
theorem lH_F (hw : lH D a cs w A H0 σ H locs) : sF a w := fun k q hk i hi e => by
  have := hw.2.1.1 i (34 + k) (a i, sE a cs i (σ i)) q (lx_pre (sW_get hi)) (lx_at hk) e
  omega
theorem lH_to (hw : lH D a cs w A H0 σ H locs) (hs : sH D a cs A H0 σ' H1 locs1) (hP : va_P D vwCl w H1) : lH D a cs w A H0 σ' H1 locs1 := ⟨va_P.app hs.1 hP, va_D.app hs.2.1 (lH_D hw) (fun i j x y hx hy e => by
  obtain ⟨hi, rfl⟩ := sW_inv hx
  exact lH_F hw j y hy i hi e), hs.2.2⟩
theorem lH_drop {x y : Nat × va_E} (hw : lH D a cs [x, y] A H0 σ H locs) : lH D a cs [x] A H0 σ H locs := by
  have hg : ∀ (k : Nat) (q : Nat × va_E), ([x] : va_W)[k]? = some q → ([x, y] : va_W)[k]? = some q := fun k q hk => by
    have h0 : k < 1 := (List.getElem?_eq_some_iff.mp hk).1
    obtain rfl : k = 0 := by omega
    exact hk
  refine ⟨va_P.app (lH_s hw).1 (fun k q hk => lH_w hw k q (hg k q hk)), va_D.app (lH_s hw).2.1 ⟨fun i j u v hu hv e => (lH_D hw).1 i j u v (hg i u hu) (hg j v hv) e, fun k q hk => (lH_D hw).2 k q (hg k q hk)⟩ (fun i j u v hu hv e => ?_), hw.2.2⟩
  obtain ⟨hi, rfl⟩ := sW_inv hu
  exact lH_F hw j v (hg j v hv) i hi e
end LW
section LC
variable {p : Program} {l : Launch} {e : Env} {R : Room} {s : State} {m : MethodId} {args : Array Value} {below : List Frame} {meth : Method} {c : Code} {H : Heap} {locs : List Loc} {cells slots : Nat} {Q : State → Prop} {pc : Nat} {ls : Array Slot} {rest st0 : List Value} {D : va_G} {a : Nat → Nat} {cs : Nat → ClassId} {σ σ' : sS} {A : Nat → Prop} {H0 : Heap} {av : Array Value} {w : va_W}
theorem lc_i {v : Int32} (hr : va_Run p l e R s m args below meth c H locs cells slots 0 0 (F0 m pc ls st0) rest (va_Qi (fun r (_ : Unit) => r = v) (fun _ t => va_P D vwCl (sW a cs σ') t.heap) (sA a H.size) av) (sA a H.size)) (hw : lH D a cs w A H0 σ H locs) (hA : ∀ q, H0.size ≤ q → A q)
    (kk : ∀ (H1 : Heap) (locs1 : List Loc), lH D a cs w A H0 σ' H1 locs1 → W p l e R s m args below meth c H1 locs1 cells slots Q (F0 m (pc + 3) ls (.int v :: rest))) : W p l e R s m args below meth c H locs cells slots Q (F0 m pc ls st0) :=
  sc_iw hr (lH_s hw) hA (lH_F hw) (lH_w hw) (fun H1 locs1 h1 h2 => kk H1 locs1 (lH_to hw h1 h2))
theorem lc_l {v : Int64} (hr : va_Run p l e R s m args below meth c H locs cells slots 0 0 (F0 m pc ls st0) rest (va_Ql (fun r (_ : Unit) => r = v) (fun _ t => va_P D vwCl (sW a cs σ') t.heap) (sA a H.size) av) (sA a H.size)) (hw : lH D a cs w A H0 σ H locs) (hA : ∀ q, H0.size ≤ q → A q)
    (kk : ∀ (H1 : Heap) (locs1 : List Loc), lH D a cs w A H0 σ' H1 locs1 → W p l e R s m args below meth c H1 locs1 cells slots Q (F0 m (pc + 3) ls (.long v :: rest))) : W p l e R s m args below meth c H locs cells slots Q (F0 m pc ls st0) :=
  sc_lw hr (lH_s hw) hA (lH_F hw) (lH_w hw) (fun H1 locs1 h1 h2 => kk H1 locs1 (lH_to hw h1 h2))
theorem lc_b {post : Int32 → Prop} (hr : va_Run p l e R s m args below meth c H locs cells slots 0 0 (F0 m pc ls st0) rest (va_Qi (fun r (_ : Unit) => post r) (fun _ _ => True) (fun q => H.size ≤ q) av) (fun q => H.size ≤ q)) (hw : lH D a cs w A H0 σ H locs) (hA : ∀ q, H0.size ≤ q → A q)
    (kk : ∀ (r : Int32) (H1 : Heap) (locs1 : List Loc), post r → lH D a cs w A H0 σ H1 locs1 → W p l e R s m args below meth c H1 locs1 cells slots Q (F0 m (pc + 3) ls (.int r :: rest))) : W p l e R s m args below meth c H locs cells slots Q (F0 m pc ls st0) :=
  bc_iw hr (lH_s hw) hA (lH_w hw) (fun r H1 locs1 hp h1 h2 => kk r H1 locs1 hp (lH_to hw h1 h2))
/-- an array's cell is read -/
theorem l_rd {cc : ByteArray} {n N : Nat} {cA : ClassId} {g : Nat → Int32} {i : Nat} (hx : p.tables.exec = Jvm.exec) (hb : c.code = cc) (hK : va_K D vwCl [(cA, .int)] s) (hw : lH D a cs w A H0 σ H locs) (j : Nat) (hj : w[j]? = some (n, .inl (cA, N, .inl g))) (hi : i < N) (hN : N < 1000) (hdg : decode cc pc = .ok (.iaload, 1))
    (kk : W p l e R s m args below meth c H locs cells slots Q (F0 m (pc + 1) ls (.int (g i) :: rest))) : W p l e R s m args below meth c H locs cells slots Q (F0 m pc ls (.int (nI i) :: .ref n :: rest)) := by
  refine va_iald hx hb hK (lH_w hw) j 0 hj rfl (vp_in_nI hi (by omega)) hdg ?_
  rw [nI_clamp (by omega)]
  exact kk
/-- an array's cell is written -/
theorem l_wr {cc : ByteArray} {n N : Nat} {cA : ClassId} {g : Nat → Int32} {i : Nat} {v : Int32} (hx : p.tables.exec = Jvm.exec) (hb : c.code = cc) (hK : va_K D vwCl [(cA, .int)] s) (hw : lH D a cs w A H0 σ H locs) (j : Nat) (hj : w[j]? = some (n, .inl (cA, N, .inl g))) (hi : i < N) (hN : N < 1000) (hdg : decode cc pc = .ok (.iastore, 1))
    (kk : ∀ (H1 : Heap) (locs1 : List Loc), lH D a cs (w.set j (n, .inl (cA, N, .inl (upd g i v)))) A H0 σ H1 locs1 → W p l e R s m args below meth c H1 locs1 cells slots Q (F0 m (pc + 1) ls rest)) : W p l e R s m args below meth c H locs cells slots Q (F0 m pc ls (.int v :: .int (nI i) :: .ref n :: rest)) := by
  refine va_iast hx hb hK hw.1 hw.2.1 hw.2.2 (34 + j) 0 (lx_at hj) rfl (vp_in_nI hi (by omega)) hdg (fun H1 locs1 h1 h2 h3 => ?_)
  rw [nI_clamp (by omega), lx_set] at h1 h2
  exact kk H1 locs1 ⟨h1, h2, h3⟩
end LC
/-! The law's own numbers. -/
theorem nat_of {x : Int32} (h : 0 ≤ x.toInt) : x = nI x.toInt.toNat := ti_eq (by
  have := ti_hi x
  rw [nI_toInt (by omega)]
  omega)
theorem rem16 : ∀ k, k < 22 → (nI k - nI k / 16 * 16 : Int32) = nI (k % 16) := by decide +kernel
/-- what the law looks at of the sums -/
def nv (σ : sS) : Nat → Int32
  | 0 => 0
  | 1 => σ 0 5
  | 2 => σ 0 6
  | 3 => σ 0 7
  | 4 => σ 0 8
  | _ => σ 0 4
theorem nv_mono {σ τ : sS} (h : gM σ τ) (i : Nat) : (nv σ i).toInt ≤ (nv τ i).toInt := by
  match i with
  | 0 => exact Int.le_refl _
  | 1 => exact h 5 (by omega) (by omega)
  | 2 => exact h 6 (by omega) (by omega)
  | 3 => exact h 7 (by omega) (by omega)
  | 4 => exact h 8 (by omega) (by omega)
  | i + 5 => exact h 4 (by omega) (by omega)
theorem many8 {B1 B2 B3 : Int} {σ : sS} (h : gI B1 B2 B3 σ) : f_X3_many σ 3 8 = 0 := by
  obtain ⟨-, -, -, -, -, hf, -⟩ := h
  show (0 : Int32) + σ (22 + 0) 5 + σ (22 + 1) 5 + σ (22 + 2) 5 = 0
  rw [(hf 0 (by omega)).2.2, (hf 1 (by omega)).2.2, (hf 2 (by omega)).2.2]
  rfl
/-- the object at the head of the law's loop, k rounds in -/
def lG (k : Nat) (σ : sS) : Prop := gI (4410 * k) (54540 * k) (14634 * k) σ ∧ (σ (1 + 0) 1).toInt ≤ 9 * k
theorem lG_up {k : Nat} {τ : sS} {C1 C2 C3 : Int} (h : gI C1 C2 C3 τ) (h1 : C1 ≤ 4410 * k + 4410) (h2 : C2 ≤ 54540 * k + 54540) (h3 : C3 ≤ 14634 * k + 14634) (hd : (τ (1 + 0) 1).toInt ≤ 9 * k + 9) : lG (k + 1) τ := ⟨gI_mono h (by omega) (by omega) (by omega), by omega⟩
theorem gM_rf {σ : sS} : gM σ σ := fun q _ _ => Int.le_refl _
/-- what the start says of the machine -/
def lM (D : va_G) (cs : Nat → ClassId) (cI : ClassId) (s : State) : Prop := va_K D vwCl (sT cs) s ∧ va_K D vwCl [(cI, .int)] s ∧ sN s
section LB
variable {p : Program} {l : Launch} {e : Env} {s : State} {m : MethodId} {below : List Frame} {meth : Method} {c : Code} {b L : Nat} {xs : Nat → Int32} {H : Heap} {locs : List Loc} {cells slots : Nat} {Q : State → Prop} {pc : Nat} {ls : Array Slot} {rest : List Value} {D : va_G} {a : Nat → Nat} {cs : Nat → ClassId} {σ : sS} {w : va_W}
/-- below's call in the law -/
theorem l_bl {x n : Int32} (C0 : lw_At p s m meth c b L xs) (hn : 1 ≤ n.toInt) (hw : lH D a cs w (lA s) s.heap σ H locs) (hsz : ls.size = 9) (hW : (rest.map fun v => v.category).sum ≤ 8) (hdg : decode cL_law pc = .ok (.invokestatic 15, 3)) (hf : cells ≤ room_1.cells ∧ slots ≤ room_1.slots)
    (kk : ∀ (r : Int32) (H : Heap) (locs : List Loc), 0 ≤ r.toInt → r.toInt < n.toInt → lH D a cs w (lA s) s.heap σ H locs → W p l e room_1 s m #[Value.ref b] below meth c H locs cells slots Q (F0 m (pc + 3) ls (.int r :: rest))) : W p l e room_1 s m #[Value.ref b] below meth c H locs cells slots Q (F0 m pc ls (.int n :: .int x :: rest)) := by
  obtain ⟨hx, hb, hr, hml, hown0, hts0, hX, hbl, hlocks, hgv⟩ := id C0
  have hown : s.vm.findClass RL = some m.cls := hown0
  have hts : ∀ w ∈ wsL_law, w.before #[Value.ref b] s = true := fun w h => hts0 w (wsL_law_in w h)
  exact lc_b (va_runS (As := [.int x, .int n]) (rest := rest) ⟨hx, hb, hml, hown, hts⟩ (zL_below l x n hn H.size) (va_cwS 2 hts gL_law_L_below rfl rfl rfl (by decide +kernel) ⟨Nat.le_of_ble_eq_true rfl, Nat.le_of_ble_eq_true rfl⟩) ⟨fun v U g mk z => z, fun U hU hW => ⟨rfl, by show U.heap.size = H.size; rw [hU]⟩⟩ rfl rfl hsz rfl (lv_room hW) hdg hf) hw (fun _ h => h) (fun r H1 locs1 hr hw => kk r H1 locs1 hr.1 hr.2 hw)
/-- cell's call in the law -/
theorem l_cl {k : Nat} (hL : L ≤ 260) (C0 : lw_At p s m meth c b L xs) (hk : k < 1000000) (hw : lH D a cs w (lA s) s.heap σ H locs) (hsz : ls.size = 9) (hW : (rest.map fun v => v.category).sum ≤ 8) (hdg : decode cL_law pc = .ok (.invokestatic 9, 3)) (hf : cells ≤ room_1.cells ∧ slots ≤ room_1.slots)
    (kk : ∀ (r : Int32) (H : Heap) (locs : List Loc), lH D a cs w (lA s) s.heap σ H locs → W p l e room_1 s m #[Value.ref b] below meth c H locs cells slots Q (F0 m (pc + 3) ls (.int r :: rest))) : W p l e room_1 s m #[Value.ref b] below meth c H locs cells slots Q (F0 m pc ls (.int (nI k) :: .ref b :: rest)) := by
  obtain ⟨hx, hb, hr, hml, hown0, hts0, hX, hbl, hlocks, hgv⟩ := id C0
  have hown : s.vm.findClass RL = some m.cls := hown0
  have hts : ∀ w ∈ wsL_law, w.before #[Value.ref b] s = true := fun w h => hts0 w (wsL_law_in w h)
  have hbA : ¬ lA s b := Nat.not_le.mpr hbl
  exact lc_b (va_runS (As := [.ref b, .int (nI k)]) (rest := rest) ⟨hx, hb, hml, hown, hts⟩ (zL_cell l b L xs (by omega) k hk H.size) (va_cwS 2 hts gL_law_L_cell rfl rfl rfl (by decide +kernel) ⟨Nat.le_of_ble_eq_true rfl, Nat.le_of_ble_eq_true rfl⟩) ⟨fun v U g mk z => z, fun U hU hW => ⟨rfl, by rw [hU], wr_cell (lH_s hw) hX hbl hbA hU hW⟩⟩ rfl rfl hsz rfl (lv_room hW) hdg hf) hw (fun _ h => h) (fun r H1 locs1 _ hw => kk r H1 locs1 hw)
end LB
