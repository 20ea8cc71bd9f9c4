/-! The law's helpers: a call of the class, its answer set down, or the exception's number. -/
def hAo (a : Nat → Nat) (o sz : Nat) : Nat → Prop := fun q => sA a sz q ∨ q = o
def hNc (U : State) : Prop := va_Nc xIA xIO U ∧ va_Nc xIS xIO U ∧ va_Nc xIS xIA U
theorem hNc.moved {u U : State} (hvm : u.vm.Alike U.vm) (h : hNc u) : hNc U := ⟨va_Nc.moved hvm h.1, va_Nc.moved hvm h.2.1, va_Nc.moved hvm h.2.2⟩
abbrev hO (o : Nat) (cJ : ClassId) (fl : Nat → Int64) : va_W := [(o, .inl (cJ, 1, .inr (.inl fl)))]
def hB (D : va_G) (a : Nat → Nat) (cs : Nat → ClassId) (σ : sS) (o : Nat) (cJ : ClassId) (fl : Nat → Int64) (sz : Nat) (U : State) : Prop := sB D a cs σ sz U ∧ sXf (hAo a o sz) U U.heap ∧ va_P D vwCl (hO o cJ fl) U.heap ∧ va_K D vwCl [(cJ, .long)] U ∧ hNc U
theorem hB_blind {D : va_G} {a : Nat → Nat} {cs : Nat → ClassId} {σ : sS} {o : Nat} {cJ : ClassId} {fl : Nat → Int64} {sz : Nat} {av : List Value} : FrameBlind (va_Pc av (hB D a cs σ o cJ fl sz)) := fun v U g mk q => by
  obtain ⟨q0, q1, qX, qP, qK, qC⟩ := q
  exact ⟨q0, (sB_blind (av := av) v U g mk ⟨q0, q1⟩).2, sXf.same (u := U) (U := U.calling g mk v) rfl qX, qP, va_K.moved (u := U) (U := U.calling g mk v) (Vm.Alike.refl U.vm) qK, hNc.moved (u := U) (U := U.calling g mk v) (Vm.Alike.refl U.vm) qC⟩
theorem hO_D {a : Nat → Nat} {o sz : Nat} {cJ : ClassId} {fl : Nat → Int64} : va_D (hAo a o sz) (hO o cJ fl) := ⟨fun i j p q hp hq _ => by
    have hi : i < 1 := (List.getElem?_eq_some_iff.mp hp).1
    have hj : j < 1 := (List.getElem?_eq_some_iff.mp hq).1
    omega, fun k q hk => by
    have hi : k < 1 := (List.getElem?_eq_some_iff.mp hk).1
    rw [show k = 0 by omega] at hk
    cases hk
    exact Or.inr rfl⟩
section HL
variable {p : Program} {l : Launch} {e : Env} {R : Room} {s : State} {m : MethodId} {args : Array Value} {below : List Frame} {meth : Method} {c : Code} {H : Heap} {locs : List Loc} {cells slots : Nat} {Q : State → Prop}
variable {cc : ByteArray} {pc : Nat} {ls : Array Slot} {rest : List Value} {D : va_G} {a : Nat → Nat} {cs : Nat → ClassId} {σ σ' : sS} {o : Nat} {cJ : ClassId} {fl : Nat → Int64}
theorem hc_i {st0 : List Value} {av : Array Value} {v : Int32} {A : Nat → Prop} {H0 : Heap} (hr : va_Run p l e R s m args below meth c H locs cells slots 0 0 (F0 m pc ls st0) rest (va_Qi (fun r (_ : Unit) => r = v) (fun _ t => va_P D vwCl (sW a cs σ') t.heap) (sA a H.size) av) (sA a H.size)) (hw : sH D a cs A H0 σ H locs) (hA : ∀ q, H0.size ≤ q → A q) (hPo : va_P D vwCl (hO o cJ fl) H) (ho : ∀ i, i < 34 → a i ≠ o)
    (kk : ∀ (H1 : Heap) (locs1 : List Loc), sH D a cs A H0 σ' H1 locs1 → va_P D vwCl (hO o cJ fl) H1 → W p l e R s m args below meth c H1 locs1 cells slots Q (F0 m (pc + 3) ls (.int v :: rest))) : W p l e R s m args below meth c H locs cells slots Q (F0 m pc ls st0) :=
  va_calli hr hw.2.2 (fun q _ h => sA_sub hw hA h) (fun q h => sA_sub hw hA h) (fun r u t H1 locs1 ht _ hr hB _ hk hS => by
    subst hr
    rw [ht] at hB
    refine kk H1 locs1 (sH_call hw hB hS) (hPo.kept (fun k q hq => ?_))
    have hk0 : k < 1 := (List.getElem?_eq_some_iff.mp hq).1
    rw [show k = 0 by omega] at hq
    cases hq
    refine hk o (hPo 0 _ rfl).lt ?_
    rintro (⟨i, hi, e⟩ | h)
    · exact ho i hi e.symm
    · exact absurd (hPo 0 _ rfl).lt (Nat.not_lt.mpr h))
theorem hc_x {own : String} {y : MethodName} {bytes : ByteArray} {maxL nL n index : Nat} {ret : Option FieldType} {ws : List Cond} {rm : Room} {Ts : List Cond} {As : List Value} {E : String}
    (S : CallFix p m c cc nL s args Ts own) (hM : sMx l y ws rm D a cs (.ref (a 0) :: As) σ E) (cw : CallW R s args own RX3 index y bytes maxL ret ws rm 1 6 n) (hK : va_K D vwCl (sT cs) s) (hN : sN s) (hX : sXf (hAo a o s.heap.size) s s.heap) (hw : sH D a cs (hAo a o s.heap.size) s.heap σ H locs)
    (hn : As.length = n) (hsize : ls.size = nL) (hW : (rest.map fun v => v.category).sum ≤ 8) (hdg : decode cc pc = .ok (.invokevirtual index, 3)) (hf : cells + 1 ≤ R.cells ∧ slots + 6 ≤ R.slots)
    (kx : ∀ (q : Addr) (ce : Cell) (H1 : Heap) (locs1 : List Loc), va_S (hAo a o s.heap.size) s.heap H1 locs1 → H1[q]? = some ce → ce.vm = .none → s.vm.findClass E = some ce.cls → vx_W p l e R s m args below meth c H1 locs1 (cells + 1) (slots + 6) Q (F0 m pc ls rest) q) :
    W p l e R s m args below meth c H locs cells slots Q (F0 m pc ls (As.reverse ++ .ref (a 0) :: rest)) := by
  have hA : ∀ q, s.heap.size ≤ q → hAo a o s.heap.size q := fun q h => Or.inl (Or.inr h)
  have hX2 : sXf (sA a H.size) s H := (hX.kept (fun x h1 h2 => hw.2.2.2.1 x h1 h2)).narrow (fun q h => sA_sub hw hA h)
  have hr := vx_runV (l := l) (e := e) (below := below) (meth := meth) (locs := locs) (Qc := fun _ _ _ _ => False) S (hM H.size) cw ⟨sBX_blind, va_recv hK hw.1 (q0 := 0) kcX3 (by rw [sW_get (by omega), sE_o]), fun U hU hW => ⟨rfl, sB_of hK hN hw hU hW, by rw [hU]; exact sXf.warm hW hX2⟩⟩ (g := F0 m pc ls (As.reverse ++ .ref (a 0) :: rest)) rfl hn hsize rfl (lv_room hW) hdg hf
  intro T hT X
  rcases hr T hT X with ⟨v, st₀, t, T', L, h0, X', hL, e1, e2, hFalse, st⟩ | ⟨q, st₀, t, T', L, E2, ce, h0, X', hL, e1, e2, ⟨u, hp, hb, hF⟩, hce, hcv, hcl, st⟩
  · exact hFalse.elim
  · cases hb
    have hS1 : va_S (hAo a o s.heap.size) s.heap T'.heap (locs ++ L) := (vx_keep h0 e1 hw.2.2 (fun q _ h => sA_sub hw hA h) (fun q h => sA_sub hw hA h) hL hF).2.2
    obtain ⟨t2, a1, b1⟩ := kx q ce T'.heap (locs ++ L) hS1 (by rw [e1]; exact hce) hcv hcl T' rfl X'
    exact ⟨t2, st.trans a1, b1⟩
end HL
theorem hCaIO : Cond.castable xIO xIO ∈ sXB := by decide +kernel
theorem hCaIA : Cond.castable xIA xIA ∈ sXB := by decide +kernel
theorem hCaIS : Cond.castable xIS xIS ∈ sXB := by decide +kernel
theorem mL_area_x1_0 : Cond.classLink RL 13 xIO ∈ wsL_area := by decide +kernel
set_option maxHeartbeats 4000000 in
set_option maxRecDepth 100000 in
theorem zL_area_x1 (l : Launch) (hst : l.stackTraces = false) (D : va_G) (a : Nat → Nat) (cs : Nat → ClassId) (σ : sS) (o : Nat) (cJ : ClassId) (fl : Nat → Int64) (ho : ∀ i, i < 34 → a i ≠ o) (x0 : Int32) (hp : x0 < 0 ∨ ¬ x0 < 0 ∧ ¬ x0 < 8) (y : Int32) (sz : Nat) : Met l yL_area wsL_area ({ frames := 8, cells := 1, slots := 6, locals := 128 }) (va_Pc [.ref (a 0), .int x0, .int y, .ref o] (hB D a cs σ o cJ fl sz)) (va_Qi (fun r (_ : Unit) => r = 1) (fun _ _ => True) (hAo a o sz)) 1 6 (hAo a o sz) := by
  refine va_MetW (cc := cL_area) (maxL := 5) (ret := (some .int)) (by decide) rfl ?_
  intro p e s m args below meth c s₁ B hml hv
  obtain ⟨rfl, hB0, hXX, hPo, hKo, hNC⟩ := hv
  have hsz := hB0.1
  subst hsz
  have hx := B.exec
  have hb := B.bytes
  have hr := B.returns
  have hts := atoms_spec (ws := wsL_area) B.pre
  have hown : s.vm.findClass RL = some m.cls := findClass_of_methodNamed B.named
  have hlocks := B.notSynchronized
  have hA : ∀ q : Nat, s.heap.size ≤ q → hAo a o s.heap.size q := fun q h => Or.inl (Or.inr h)
  have hK := hB0.2.2.1
  have hN := hB0.2.2.2.2
  have hw : sH D a cs (hAo a o s.heap.size) s.heap σ s.heap [] := ⟨hB0.2.1, (sD_self (sz := s.heap.size) hB0.2.2.2.1).weaken (fun _ _ _ h => Or.inl h), va_S.rf⟩
  have hl := lv_entry ([.ref (a 0), .int x0, .int y, .ref o]) (n := 5) (Nat.le_of_ble_eq_true rfl)
  rw [lg_entry_eq]
  generalize (lg_sl ([.ref (a 0), .int x0, .int y, .ref o]) ++ List.replicate (5 - (lg_sl ([.ref (a 0), .int x0, .int y, .ref o])).length) Slot.unset).toArray = ls at hl ⊢
  have hl : lv_has ls 5 [(0, .ref (a 0)), (1, .int x0), (2, .int y), (3, .ref o)] := hl
  refine lv_aload_n hx hb dL_area_0 rfl (lv_at hl 3 rfl) ?_
  refine lv_iconst (v := 0) hx hb dL_area_1 (by decide) ?_
  refine lv_aload_n hx hb dL_area_2 rfl (lv_at hl 0 rfl) ?_
  refine lv_iload_n hx hb dL_area_3 rfl (lv_at hl 1 rfl) ?_
  refine lv_iload_n hx hb dL_area_4 rfl (lv_at hl 2 rfl) ?_
  have htab := vx_table (x := yL_area) B (hts _ (show Cond.codeWith yL_area cL_area 5 (some .int) [(0, 10, 13, 13), (0, 10, 17, 15), (0, 10, 21, 17)] ∈ wsL_area from List.mem_cons_self))
  refine hc_x (As := [.int x0, .int y]) (rest := [.int 0, .ref o]) ⟨hx, hb, hml, hown, hts⟩ (zX3_area_x1 l hst D a cs _ x0 hp y) (cwV 2 hts gL_area_X3_area rfl rfl rfl (by decide +kernel) ⟨Nat.le_of_ble_eq_true rfl, Nat.le_of_ble_eq_true rfl⟩) hK hN hXX hw rfl hl.1 (Nat.le_of_ble_eq_true rfl) dL_area_5 ⟨Nat.le_of_ble_eq_true rfl, Nat.le_of_ble_eq_true rfl⟩ (fun qE ce H1 locs1 hS hce hcv hcl => ?_)
  refine vx_catch (name := xIO) hown [] ⟨0, 10, 13, 13⟩ [⟨0, 10, 17, 15⟩, ⟨0, 10, 21, 17⟩] htab (fun z hz => nomatch hz) (by decide) (by decide) (hts _ mL_area_x1_0) (sX_words hXX _ _ hCaIO) hce hcv hcl ?_
  refine lv_astore (lv' := [(4, .ref qE), (0, .ref (a 0)), (1, .int x0), (2, .int y), (3, .ref o)]) hx hb dL_area_13 hl (by decide) rfl (fun ls hl => ?_)
  refine lv_iconst (v := 1) hx hb dL_area_15 (by decide) ?_
  exact W.iret hx hb hr (fun t ht hW => ⟨⟨1, (), rfl, rfl, trivial⟩, hS.F ht⟩) hS.2.2 dL_area_16 hlocks
theorem mL_area_x2_0 : Cond.classLink RL 13 xIO ∈ wsL_area := by decide +kernel
theorem mL_area_x2_1 : Cond.classLink RL 15 xIA ∈ wsL_area := by decide +kernel
set_option maxHeartbeats 4000000 in
set_option maxRecDepth 100000 in
theorem zL_area_x2 (l : Launch) (hst : l.stackTraces = false) (D : va_G) (a : Nat → Nat) (cs : Nat → ClassId) (σ : sS) (o : Nat) (cJ : ClassId) (fl : Nat → Int64) (ho : ∀ i, i < 34 → a i ≠ o) (k : Nat) (hk : k < 8) (y : Int32) (h1 : y < 1) (sz : Nat) : Met l yL_area wsL_area ({ frames := 7, cells := 1, slots := 6, locals := 107 }) (va_Pc [.ref (a 0), .int (nI k), .int y, .ref o] (hB D a cs σ o cJ fl sz)) (va_Qi (fun r (_ : Unit) => r = 2) (fun _ _ => True) (hAo a o sz)) 1 6 (hAo a o sz) := by
  refine va_MetW (cc := cL_area) (maxL := 5) (ret := (some .int)) (by decide) rfl ?_
  intro p e s m args below meth c s₁ B hml hv
  obtain ⟨rfl, hB0, hXX, hPo, hKo, hNC⟩ := hv
  have hsz := hB0.1
  subst hsz
  have hx := B.exec
  have hb := B.bytes
  have hr := B.returns
  have hts := atoms_spec (ws := wsL_area) B.pre
  have hown : s.vm.findClass RL = some m.cls := findClass_of_methodNamed B.named
  have hlocks := B.notSynchronized
  have hA : ∀ q : Nat, s.heap.size ≤ q → hAo a o s.heap.size q := fun q h => Or.inl (Or.inr h)
  have hK := hB0.2.2.1
  have hN := hB0.2.2.2.2
  have hw : sH D a cs (hAo a o s.heap.size) s.heap σ s.heap [] := ⟨hB0.2.1, (sD_self (sz := s.heap.size) hB0.2.2.2.1).weaken (fun _ _ _ h => Or.inl h), va_S.rf⟩
  have hl := lv_entry ([.ref (a 0), .int (nI k), .int y, .ref o]) (n := 5) (Nat.le_of_ble_eq_true rfl)
  rw [lg_entry_eq]
  generalize (lg_sl ([.ref (a 0), .int (nI k), .int y, .ref o]) ++ List.replicate (5 - (lg_sl ([.ref (a 0), .int (nI k), .int y, .ref o])).length) Slot.unset).toArray = ls at hl ⊢
  have hl : lv_has ls 5 [(0, .ref (a 0)), (1, .int (nI k)), (2, .int y), (3, .ref o)] := hl
  refine lv_aload_n hx hb dL_area_0 rfl (lv_at hl 3 rfl) ?_
  refine lv_iconst (v := 0) hx hb dL_area_1 (by decide) ?_
  refine lv_aload_n hx hb dL_area_2 rfl (lv_at hl 0 rfl) ?_
  refine lv_iload_n hx hb dL_area_3 rfl (lv_at hl 1 rfl) ?_
  refine lv_iload_n hx hb dL_area_4 rfl (lv_at hl 2 rfl) ?_
  have htab := vx_table (x := yL_area) B (hts _ (show Cond.codeWith yL_area cL_area 5 (some .int) [(0, 10, 13, 13), (0, 10, 17, 15), (0, 10, 21, 17)] ∈ wsL_area from List.mem_cons_self))
  refine hc_x (As := [.int (nI k), .int y]) (rest := [.int 0, .ref o]) ⟨hx, hb, hml, hown, hts⟩ (zX3_area_x2 l hst D a cs _ k hk y h1) (cwV 2 hts gL_area_X3_area rfl rfl rfl (by decide +kernel) ⟨Nat.le_of_ble_eq_true rfl, Nat.le_of_ble_eq_true rfl⟩) hK hN hXX hw rfl hl.1 (Nat.le_of_ble_eq_true rfl) dL_area_5 ⟨Nat.le_of_ble_eq_true rfl, Nat.le_of_ble_eq_true rfl⟩ (fun qE ce H1 locs1 hS hce hcv hcl => ?_)
  refine vx_catch (name := xIA) hown [⟨0, 10, 13, 13⟩] ⟨0, 10, 17, 15⟩ [⟨0, 10, 21, 17⟩] htab (fun z hz => by rw [List.mem_singleton] at hz; subst hz; exact Or.inr ⟨by decide, xIO, (hts _ mL_area_x2_0), hNC.1⟩) (by decide) (by decide) (hts _ mL_area_x2_1) (sX_words hXX _ _ hCaIA) hce hcv hcl ?_
  refine lv_astore (lv' := [(4, .ref qE), (0, .ref (a 0)), (1, .int (nI k)), (2, .int y), (3, .ref o)]) hx hb dL_area_17 hl (by decide) rfl (fun ls hl => ?_)
  refine lv_iconst (v := 2) hx hb dL_area_19 (by decide) ?_
  exact W.iret hx hb hr (fun t ht hW => ⟨⟨2, (), rfl, rfl, trivial⟩, hS.F ht⟩) hS.2.2 dL_area_20 hlocks
theorem mL_area_x3_0 : Cond.classLink RL 13 xIO ∈ wsL_area := by decide +kernel
theorem mL_area_x3_1 : Cond.classLink RL 15 xIA ∈ wsL_area := by decide +kernel
set_option maxHeartbeats 4000000 in
set_option maxRecDepth 100000 in
theorem zL_area_x3 (l : Launch) (hst : l.stackTraces = false) (D : va_G) (a : Nat → Nat) (cs : Nat → ClassId) (σ : sS) (o : Nat) (cJ : ClassId) (fl : Nat → Int64) (ho : ∀ i, i < 34 → a i ≠ o) (k : Nat) (hk : k < 8) (y : Int32) (h1 : ¬ y < 1) (h2 : ¬ y ≤ 9) (sz : Nat) : Met l yL_area wsL_area ({ frames := 7, cells := 1, slots := 6, locals := 107 }) (va_Pc [.ref (a 0), .int (nI k), .int y, .ref o] (hB D a cs σ o cJ fl sz)) (va_Qi (fun r (_ : Unit) => r = 2) (fun _ _ => True) (hAo a o sz)) 1 6 (hAo a o sz) := by
  refine va_MetW (cc := cL_area) (maxL := 5) (ret := (some .int)) (by decide) rfl ?_
  intro p e s m args below meth c s₁ B hml hv
  obtain ⟨rfl, hB0, hXX, hPo, hKo, hNC⟩ := hv
  have hsz := hB0.1
  subst hsz
  have hx := B.exec
  have hb := B.bytes
  have hr := B.returns
  have hts := atoms_spec (ws := wsL_area) B.pre
  have hown : s.vm.findClass RL = some m.cls := findClass_of_methodNamed B.named
  have hlocks := B.notSynchronized
  have hA : ∀ q : Nat, s.heap.size ≤ q → hAo a o s.heap.size q := fun q h => Or.inl (Or.inr h)
  have hK := hB0.2.2.1
  have hN := hB0.2.2.2.2
  have hw : sH D a cs (hAo a o s.heap.size) s.heap σ s.heap [] := ⟨hB0.2.1, (sD_self (sz := s.heap.size) hB0.2.2.2.1).weaken (fun _ _ _ h => Or.inl h), va_S.rf⟩
  have hl := lv_entry ([.ref (a 0), .int (nI k), .int y, .ref o]) (n := 5) (Nat.le_of_ble_eq_true rfl)
  rw [lg_entry_eq]
  generalize (lg_sl ([.ref (a 0), .int (nI k), .int y, .ref o]) ++ List.replicate (5 - (lg_sl ([.ref (a 0), .int (nI k), .int y, .ref o])).length) Slot.unset).toArray = ls at hl ⊢
  have hl : lv_has ls 5 [(0, .ref (a 0)), (1, .int (nI k)), (2, .int y), (3, .ref o)] := hl
  refine lv_aload_n hx hb dL_area_0 rfl (lv_at hl 3 rfl) ?_
  refine lv_iconst (v := 0) hx hb dL_area_1 (by decide) ?_
  refine lv_aload_n hx hb dL_area_2 rfl (lv_at hl 0 rfl) ?_
  refine lv_iload_n hx hb dL_area_3 rfl (lv_at hl 1 rfl) ?_
  refine lv_iload_n hx hb dL_area_4 rfl (lv_at hl 2 rfl) ?_
  have htab := vx_table (x := yL_area) B (hts _ (show Cond.codeWith yL_area cL_area 5 (some .int) [(0, 10, 13, 13), (0, 10, 17, 15), (0, 10, 21, 17)] ∈ wsL_area from List.mem_cons_self))
  refine hc_x (As := [.int (nI k), .int y]) (rest := [.int 0, .ref o]) ⟨hx, hb, hml, hown, hts⟩ (zX3_area_x3 l hst D a cs _ k hk y h1 h2) (cwV 2 hts gL_area_X3_area rfl rfl rfl (by decide +kernel) ⟨Nat.le_of_ble_eq_true rfl, Nat.le_of_ble_eq_true rfl⟩) hK hN hXX hw rfl hl.1 (Nat.le_of_ble_eq_true rfl) dL_area_5 ⟨Nat.le_of_ble_eq_true rfl, Nat.le_of_ble_eq_true rfl⟩ (fun qE ce H1 locs1 hS hce hcv hcl => ?_)
  refine vx_catch (name := xIA) hown [⟨0, 10, 13, 13⟩] ⟨0, 10, 17, 15⟩ [⟨0, 10, 21, 17⟩] htab (fun z hz => by rw [List.mem_singleton] at hz; subst hz; exact Or.inr ⟨by decide, xIO, (hts _ mL_area_x3_0), hNC.1⟩) (by decide) (by decide) (hts _ mL_area_x3_1) (sX_words hXX _ _ hCaIA) hce hcv hcl ?_
  refine lv_astore (lv' := [(4, .ref qE), (0, .ref (a 0)), (1, .int (nI k)), (2, .int y), (3, .ref o)]) hx hb dL_area_17 hl (by decide) rfl (fun ls hl => ?_)
  refine lv_iconst (v := 2) hx hb dL_area_19 (by decide) ?_
  exact W.iret hx hb hr (fun t ht hW => ⟨⟨2, (), rfl, rfl, trivial⟩, hS.F ht⟩) hS.2.2 dL_area_20 hlocks
theorem mL_bestGates_x1_0 : Cond.classLink RL 15 xIA ∈ wsL_bestGates := by decide +kernel
set_option maxHeartbeats 4000000 in
set_option maxRecDepth 100000 in
theorem zL_bestGates_x1 (l : Launch) (hst : l.stackTraces = false) (D : va_G) (a : Nat → Nat) (cs : Nat → ClassId) (σ : sS) (o : Nat) (cJ : ClassId) (fl : Nat → Int64) (ho : ∀ i, i < 34 → a i ≠ o) (n x y : Int32) (h1 : n < 1) (sz : Nat) : Met l yL_bestGates wsL_bestGates ({ frames := 7, cells := 1, slots := 6, locals := 111 }) (va_Pc [.ref (a 0), .int n, .int x, .int y, .ref o] (hB D a cs σ o cJ fl sz)) (va_Qi (fun r (_ : Unit) => r = 1) (fun _ _ => True) (hAo a o sz)) 1 6 (hAo a o sz) := by
  refine va_MetW (cc := cL_bestGates) (maxL := 6) (ret := (some .int)) (by decide) rfl ?_
  intro p e s m args below meth c s₁ B hml hv
  obtain ⟨rfl, hB0, hXX, hPo, hKo, hNC⟩ := hv
  have hsz := hB0.1
  subst hsz
  have hx := B.exec
  have hb := B.bytes
  have hr := B.returns
  have hts := atoms_spec (ws := wsL_bestGates) B.pre
  have hown : s.vm.findClass RL = some m.cls := findClass_of_methodNamed B.named
  have hlocks := B.notSynchronized
  have hA : ∀ q : Nat, s.heap.size ≤ q → hAo a o s.heap.size q := fun q h => Or.inl (Or.inr h)
  have hK := hB0.2.2.1
  have hN := hB0.2.2.2.2
  have hw : sH D a cs (hAo a o s.heap.size) s.heap σ s.heap [] := ⟨hB0.2.1, (sD_self (sz := s.heap.size) hB0.2.2.2.1).weaken (fun _ _ _ h => Or.inl h), va_S.rf⟩
  have hl := lv_entry ([.ref (a 0), .int n, .int x, .int y, .ref o]) (n := 6) (Nat.le_of_ble_eq_true rfl)
  rw [lg_entry_eq]
  generalize (lg_sl ([.ref (a 0), .int n, .int x, .int y, .ref o]) ++ List.replicate (6 - (lg_sl ([.ref (a 0), .int n, .int x, .int y, .ref o])).length) Slot.unset).toArray = ls at hl ⊢
  have hl : lv_has ls 6 [(0, .ref (a 0)), (1, .int n), (2, .int x), (3, .int y), (4, .ref o)] := hl
  refine lv_aload hx hb dL_bestGates_0 (lv_at hl 4 rfl) ?_
  refine lv_iconst (v := 0) hx hb dL_bestGates_2 (by decide) ?_
  refine lv_aload_n hx hb dL_bestGates_3 rfl (lv_at hl 0 rfl) ?_
  refine lv_iload_n hx hb dL_bestGates_4 rfl (lv_at hl 1 rfl) ?_
  refine lv_iload_n hx hb dL_bestGates_5 rfl (lv_at hl 2 rfl) ?_
  refine lv_iload_n hx hb dL_bestGates_6 rfl (lv_at hl 3 rfl) ?_
  have htab := vx_table (x := yL_bestGates) B (hts _ (show Cond.codeWith yL_bestGates cL_bestGates 6 (some .int) [(0, 12, 15, 15)] ∈ wsL_bestGates from List.mem_cons_self))
  refine hc_x (As := [.int n, .int x, .int y]) (rest := [.int 0, .ref o]) ⟨hx, hb, hml, hown, hts⟩ (zX3_bestGates_x1 l hst D a cs _ n x y h1) (cwV 3 hts gL_bestGates_X3_bestGates rfl rfl rfl (by decide +kernel) ⟨Nat.le_of_ble_eq_true rfl, Nat.le_of_ble_eq_true rfl⟩) hK hN hXX hw rfl hl.1 (Nat.le_of_ble_eq_true rfl) dL_bestGates_7 ⟨Nat.le_of_ble_eq_true rfl, Nat.le_of_ble_eq_true rfl⟩ (fun qE ce H1 locs1 hS hce hcv hcl => ?_)
  refine vx_catch (name := xIA) hown [] ⟨0, 12, 15, 15⟩ [] htab (fun z hz => nomatch hz) (by decide) (by decide) (hts _ mL_bestGates_x1_0) (sX_words hXX _ _ hCaIA) hce hcv hcl ?_
  refine lv_astore (lv' := [(5, .ref qE), (0, .ref (a 0)), (1, .int n), (2, .int x), (3, .int y), (4, .ref o)]) hx hb dL_bestGates_15 hl (by decide) rfl (fun ls hl => ?_)
  refine lv_iconst (v := 1) hx hb dL_bestGates_17 (by decide) ?_
  exact W.iret hx hb hr (fun t ht hW => ⟨⟨1, (), rfl, rfl, trivial⟩, hS.F ht⟩) hS.2.2 dL_bestGates_18 hlocks
theorem mL_bestGates_x2_0 : Cond.classLink RL 15 xIA ∈ wsL_bestGates := by decide +kernel
set_option maxHeartbeats 4000000 in
set_option maxRecDepth 100000 in
theorem zL_bestGates_x2 (l : Launch) (hst : l.stackTraces = false) (D : va_G) (a : Nat → Nat) (cs : Nat → ClassId) (σ : sS) (o : Nat) (cJ : ClassId) (fl : Nat → Int64) (ho : ∀ i, i < 34 → a i ≠ o) (n x y : Int32) (h1 : ¬ n < 1) (h2 : ¬ n ≤ 9) (sz : Nat) : Met l yL_bestGates wsL_bestGates ({ frames := 7, cells := 1, slots := 6, locals := 111 }) (va_Pc [.ref (a 0), .int n, .int x, .int y, .ref o] (hB D a cs σ o cJ fl sz)) (va_Qi (fun r (_ : Unit) => r = 1) (fun _ _ => True) (hAo a o sz)) 1 6 (hAo a o sz) := by
  refine va_MetW (cc := cL_bestGates) (maxL := 6) (ret := (some .int)) (by decide) rfl ?_
  intro p e s m args below meth c s₁ B hml hv
  obtain ⟨rfl, hB0, hXX, hPo, hKo, hNC⟩ := hv
  have hsz := hB0.1
  subst hsz
  have hx := B.exec
  have hb := B.bytes
  have hr := B.returns
  have hts := atoms_spec (ws := wsL_bestGates) B.pre
  have hown : s.vm.findClass RL = some m.cls := findClass_of_methodNamed B.named
  have hlocks := B.notSynchronized
  have hA : ∀ q : Nat, s.heap.size ≤ q → hAo a o s.heap.size q := fun q h => Or.inl (Or.inr h)
  have hK := hB0.2.2.1
  have hN := hB0.2.2.2.2
  have hw : sH D a cs (hAo a o s.heap.size) s.heap σ s.heap [] := ⟨hB0.2.1, (sD_self (sz := s.heap.size) hB0.2.2.2.1).weaken (fun _ _ _ h => Or.inl h), va_S.rf⟩
  have hl := lv_entry ([.ref (a 0), .int n, .int x, .int y, .ref o]) (n := 6) (Nat.le_of_ble_eq_true rfl)
  rw [lg_entry_eq]
  generalize (lg_sl ([.ref (a 0), .int n, .int x, .int y, .ref o]) ++ List.replicate (6 - (lg_sl ([.ref (a 0), .int n, .int x, .int y, .ref o])).length) Slot.unset).toArray = ls at hl ⊢
  have hl : lv_has ls 6 [(0, .ref (a 0)), (1, .int n), (2, .int x), (3, .int y), (4, .ref o)] := hl
  refine lv_aload hx hb dL_bestGates_0 (lv_at hl 4 rfl) ?_
  refine lv_iconst (v := 0) hx hb dL_bestGates_2 (by decide) ?_
  refine lv_aload_n hx hb dL_bestGates_3 rfl (lv_at hl 0 rfl) ?_
  refine lv_iload_n hx hb dL_bestGates_4 rfl (lv_at hl 1 rfl) ?_
  refine lv_iload_n hx hb dL_bestGates_5 rfl (lv_at hl 2 rfl) ?_
  refine lv_iload_n hx hb dL_bestGates_6 rfl (lv_at hl 3 rfl) ?_
  have htab := vx_table (x := yL_bestGates) B (hts _ (show Cond.codeWith yL_bestGates cL_bestGates 6 (some .int) [(0, 12, 15, 15)] ∈ wsL_bestGates from List.mem_cons_self))
  refine hc_x (As := [.int n, .int x, .int y]) (rest := [.int 0, .ref o]) ⟨hx, hb, hml, hown, hts⟩ (zX3_bestGates_x2 l hst D a cs _ n x y h1 h2) (cwV 3 hts gL_bestGates_X3_bestGates rfl rfl rfl (by decide +kernel) ⟨Nat.le_of_ble_eq_true rfl, Nat.le_of_ble_eq_true rfl⟩) hK hN hXX hw rfl hl.1 (Nat.le_of_ble_eq_true rfl) dL_bestGates_7 ⟨Nat.le_of_ble_eq_true rfl, Nat.le_of_ble_eq_true rfl⟩ (fun qE ce H1 locs1 hS hce hcv hcl => ?_)
  refine vx_catch (name := xIA) hown [] ⟨0, 12, 15, 15⟩ [] htab (fun z hz => nomatch hz) (by decide) (by decide) (hts _ mL_bestGates_x2_0) (sX_words hXX _ _ hCaIA) hce hcv hcl ?_
  refine lv_astore (lv' := [(5, .ref qE), (0, .ref (a 0)), (1, .int n), (2, .int x), (3, .int y), (4, .ref o)]) hx hb dL_bestGates_15 hl (by decide) rfl (fun ls hl => ?_)
  refine lv_iconst (v := 1) hx hb dL_bestGates_17 (by decide) ?_
  exact W.iret hx hb hr (fun t ht hW => ⟨⟨1, (), rfl, rfl, trivial⟩, hS.F ht⟩) hS.2.2 dL_bestGates_18 hlocks
theorem mL_bestGates_x3_0 : Cond.classLink RL 15 xIA ∈ wsL_bestGates := by decide +kernel
set_option maxHeartbeats 4000000 in
set_option maxRecDepth 100000 in
theorem zL_bestGates_x3 (l : Launch) (hst : l.stackTraces = false) (D : va_G) (a : Nat → Nat) (cs : Nat → ClassId) (σ : sS) (o : Nat) (cJ : ClassId) (fl : Nat → Int64) (ho : ∀ i, i < 34 → a i ≠ o) (n : Int32) (h1 : ¬ n < 1) (h2 : n ≤ 9) (x y : Int32) (hp : x < 0 ∨ ¬ x < 0 ∧ ¬ x ≤ 9 ∨ ¬ x < 0 ∧ x ≤ 9 ∧ y < 0 ∨ ¬ x < 0 ∧ x ≤ 9 ∧ ¬ y < 0 ∧ ¬ y ≤ 9)  (sz : Nat) : Met l yL_bestGates wsL_bestGates ({ frames := 8, cells := 1, slots := 6, locals := 133 }) (va_Pc [.ref (a 0), .int n, .int x, .int y, .ref o] (hB D a cs σ o cJ fl sz)) (va_Qi (fun r (_ : Unit) => r = 1) (fun _ _ => True) (hAo a o sz)) 1 6 (hAo a o sz) := by
  refine va_MetW (cc := cL_bestGates) (maxL := 6) (ret := (some .int)) (by decide) rfl ?_
  intro p e s m args below meth c s₁ B hml hv
  obtain ⟨rfl, hB0, hXX, hPo, hKo, hNC⟩ := hv
  have hsz := hB0.1
  subst hsz
  have hx := B.exec
  have hb := B.bytes
  have hr := B.returns
  have hts := atoms_spec (ws := wsL_bestGates) B.pre
  have hown : s.vm.findClass RL = some m.cls := findClass_of_methodNamed B.named
  have hlocks := B.notSynchronized
  have hA : ∀ q : Nat, s.heap.size ≤ q → hAo a o s.heap.size q := fun q h => Or.inl (Or.inr h)
  have hK := hB0.2.2.1
  have hN := hB0.2.2.2.2
  have hw : sH D a cs (hAo a o s.heap.size) s.heap σ s.heap [] := ⟨hB0.2.1, (sD_self (sz := s.heap.size) hB0.2.2.2.1).weaken (fun _ _ _ h => Or.inl h), va_S.rf⟩
  have hl := lv_entry ([.ref (a 0), .int n, .int x, .int y, .ref o]) (n := 6) (Nat.le_of_ble_eq_true rfl)
  rw [lg_entry_eq]
  generalize (lg_sl ([.ref (a 0), .int n, .int x, .int y, .ref o]) ++ List.replicate (6 - (lg_sl ([.ref (a 0), .int n, .int x, .int y, .ref o])).length) Slot.unset).toArray = ls at hl ⊢
  have hl : lv_has ls 6 [(0, .ref (a 0)), (1, .int n), (2, .int x), (3, .int y), (4, .ref o)] := hl
  refine lv_aload hx hb dL_bestGates_0 (lv_at hl 4 rfl) ?_
  refine lv_iconst (v := 0) hx hb dL_bestGates_2 (by decide) ?_
  refine lv_aload_n hx hb dL_bestGates_3 rfl (lv_at hl 0 rfl) ?_
  refine lv_iload_n hx hb dL_bestGates_4 rfl (lv_at hl 1 rfl) ?_
  refine lv_iload_n hx hb dL_bestGates_5 rfl (lv_at hl 2 rfl) ?_
  refine lv_iload_n hx hb dL_bestGates_6 rfl (lv_at hl 3 rfl) ?_
  have htab := vx_table (x := yL_bestGates) B (hts _ (show Cond.codeWith yL_bestGates cL_bestGates 6 (some .int) [(0, 12, 15, 15)] ∈ wsL_bestGates from List.mem_cons_self))
  refine hc_x (As := [.int n, .int x, .int y]) (rest := [.int 0, .ref o]) ⟨hx, hb, hml, hown, hts⟩ (zX3_bestGates_x3 l hst D a cs _ n h1 h2 x y hp) (cwV 3 hts gL_bestGates_X3_bestGates rfl rfl rfl (by decide +kernel) ⟨Nat.le_of_ble_eq_true rfl, Nat.le_of_ble_eq_true rfl⟩) hK hN hXX hw rfl hl.1 (Nat.le_of_ble_eq_true rfl) dL_bestGates_7 ⟨Nat.le_of_ble_eq_true rfl, Nat.le_of_ble_eq_true rfl⟩ (fun qE ce H1 locs1 hS hce hcv hcl => ?_)
  refine vx_catch (name := xIA) hown [] ⟨0, 12, 15, 15⟩ [] htab (fun z hz => nomatch hz) (by decide) (by decide) (hts _ mL_bestGates_x3_0) (sX_words hXX _ _ hCaIA) hce hcv hcl ?_
  refine lv_astore (lv' := [(5, .ref qE), (0, .ref (a 0)), (1, .int n), (2, .int x), (3, .int y), (4, .ref o)]) hx hb dL_bestGates_15 hl (by decide) rfl (fun ls hl => ?_)
  refine lv_iconst (v := 1) hx hb dL_bestGates_17 (by decide) ?_
  exact W.iret hx hb hr (fun t ht hW => ⟨⟨1, (), rfl, rfl, trivial⟩, hS.F ht⟩) hS.2.2 dL_bestGates_18 hlocks
theorem mL_cover_x1_0 : Cond.classLink RL 13 xIO ∈ wsL_cover := by decide +kernel
set_option maxHeartbeats 4000000 in
set_option maxRecDepth 100000 in
theorem zL_cover_x1 (l : Launch) (hst : l.stackTraces = false) (D : va_G) (a : Nat → Nat) (cs : Nat → ClassId) (σ : sS) (o : Nat) (cJ : ClassId) (fl : Nat → Int64) (ho : ∀ i, i < 34 → a i ≠ o) (x0 : Int32) (hp : x0 < 5 ∨ ¬ x0 < 5 ∧ ¬ x0 < 8) (y : Int32) (sz : Nat) : Met l yL_cover wsL_cover ({ frames := 8, cells := 1, slots := 6, locals := 128 }) (va_Pc [.ref (a 0), .int x0, .int y, .ref o] (hB D a cs σ o cJ fl sz)) (va_Qi (fun r (_ : Unit) => r = 1) (fun _ _ => True) (hAo a o sz)) 1 6 (hAo a o sz) := by
  refine va_MetW (cc := cL_cover) (maxL := 5) (ret := (some .int)) (by decide) rfl ?_
  intro p e s m args below meth c s₁ B hml hv
  obtain ⟨rfl, hB0, hXX, hPo, hKo, hNC⟩ := hv
  have hsz := hB0.1
  subst hsz
  have hx := B.exec
  have hb := B.bytes
  have hr := B.returns
  have hts := atoms_spec (ws := wsL_cover) B.pre
  have hown : s.vm.findClass RL = some m.cls := findClass_of_methodNamed B.named
  have hlocks := B.notSynchronized
  have hA : ∀ q : Nat, s.heap.size ≤ q → hAo a o s.heap.size q := fun q h => Or.inl (Or.inr h)
  have hK := hB0.2.2.1
  have hN := hB0.2.2.2.2
  have hw : sH D a cs (hAo a o s.heap.size) s.heap σ s.heap [] := ⟨hB0.2.1, (sD_self (sz := s.heap.size) hB0.2.2.2.1).weaken (fun _ _ _ h => Or.inl h), va_S.rf⟩
  have hl := lv_entry ([.ref (a 0), .int x0, .int y, .ref o]) (n := 5) (Nat.le_of_ble_eq_true rfl)
  rw [lg_entry_eq]
  generalize (lg_sl ([.ref (a 0), .int x0, .int y, .ref o]) ++ List.replicate (5 - (lg_sl ([.ref (a 0), .int x0, .int y, .ref o])).length) Slot.unset).toArray = ls at hl ⊢
  have hl : lv_has ls 5 [(0, .ref (a 0)), (1, .int x0), (2, .int y), (3, .ref o)] := hl
  refine lv_aload_n hx hb dL_cover_0 rfl (lv_at hl 3 rfl) ?_
  refine lv_iconst (v := 0) hx hb dL_cover_1 (by decide) ?_
  refine lv_aload_n hx hb dL_cover_2 rfl (lv_at hl 0 rfl) ?_
  refine lv_iload_n hx hb dL_cover_3 rfl (lv_at hl 1 rfl) ?_
  refine lv_iload_n hx hb dL_cover_4 rfl (lv_at hl 2 rfl) ?_
  have htab := vx_table (x := yL_cover) B (hts _ (show Cond.codeWith yL_cover cL_cover 5 (some .int) [(0, 17, 20, 13)] ∈ wsL_cover from List.mem_cons_self))
  refine hc_x (As := [.int x0, .int y]) (rest := [.int 0, .ref o]) ⟨hx, hb, hml, hown, hts⟩ (zX3_cover_x1 l hst D a cs _ x0 hp y) (cwV 2 hts gL_cover_X3_cover rfl rfl rfl (by decide +kernel) ⟨Nat.le_of_ble_eq_true rfl, Nat.le_of_ble_eq_true rfl⟩) hK hN hXX hw rfl hl.1 (Nat.le_of_ble_eq_true rfl) dL_cover_5 ⟨Nat.le_of_ble_eq_true rfl, Nat.le_of_ble_eq_true rfl⟩ (fun qE ce H1 locs1 hS hce hcv hcl => ?_)
  refine vx_catch (name := xIO) hown [] ⟨0, 17, 20, 13⟩ [] htab (fun z hz => nomatch hz) (by decide) (by decide) (hts _ mL_cover_x1_0) (sX_words hXX _ _ hCaIO) hce hcv hcl ?_
  refine lv_astore (lv' := [(4, .ref qE), (0, .ref (a 0)), (1, .int x0), (2, .int y), (3, .ref o)]) hx hb dL_cover_20 hl (by decide) rfl (fun ls hl => ?_)
  refine lv_iconst (v := 1) hx hb dL_cover_22 (by decide) ?_
  exact W.iret hx hb hr (fun t ht hW => ⟨⟨1, (), rfl, rfl, trivial⟩, hS.F ht⟩) hS.2.2 dL_cover_23 hlocks
theorem mL_crustIn_x1_0 : Cond.classLink RL 13 xIO ∈ wsL_crustIn := by decide +kernel
set_option maxHeartbeats 4000000 in
set_option maxRecDepth 100000 in
theorem zL_crustIn_x1 (l : Launch) (hst : l.stackTraces = false) (D : va_G) (a : Nat → Nat) (cs : Nat → ClassId) (σ : sS) (o : Nat) (cJ : ClassId) (fl : Nat → Int64) (ho : ∀ i, i < 34 → a i ≠ o) (x0 : Int32) (hp : x0 < 5 ∨ ¬ x0 < 5 ∧ ¬ x0 < 8) (y z : Int32) (sz : Nat) : Met l yL_crustIn wsL_crustIn ({ frames := 8, cells := 1, slots := 6, locals := 129 }) (va_Pc [.ref (a 0), .int x0, .int y, .int z, .ref o] (hB D a cs σ o cJ fl sz)) (va_Qi (fun r (_ : Unit) => r = 1) (fun _ _ => True) (hAo a o sz)) 1 6 (hAo a o sz) := by
  refine va_MetW (cc := cL_crustIn) (maxL := 6) (ret := (some .int)) (by decide) rfl ?_
  intro p e s m args below meth c s₁ B hml hv
  obtain ⟨rfl, hB0, hXX, hPo, hKo, hNC⟩ := hv
  have hsz := hB0.1
  subst hsz
  have hx := B.exec
  have hb := B.bytes
  have hr := B.returns
  have hts := atoms_spec (ws := wsL_crustIn) B.pre
  have hown : s.vm.findClass RL = some m.cls := findClass_of_methodNamed B.named
  have hlocks := B.notSynchronized
  have hA : ∀ q : Nat, s.heap.size ≤ q → hAo a o s.heap.size q := fun q h => Or.inl (Or.inr h)
  have hK := hB0.2.2.1
  have hN := hB0.2.2.2.2
  have hw : sH D a cs (hAo a o s.heap.size) s.heap σ s.heap [] := ⟨hB0.2.1, (sD_self (sz := s.heap.size) hB0.2.2.2.1).weaken (fun _ _ _ h => Or.inl h), va_S.rf⟩
  have hl := lv_entry ([.ref (a 0), .int x0, .int y, .int z, .ref o]) (n := 6) (Nat.le_of_ble_eq_true rfl)
  rw [lg_entry_eq]
  generalize (lg_sl ([.ref (a 0), .int x0, .int y, .int z, .ref o]) ++ List.replicate (6 - (lg_sl ([.ref (a 0), .int x0, .int y, .int z, .ref o])).length) Slot.unset).toArray = ls at hl ⊢
  have hl : lv_has ls 6 [(0, .ref (a 0)), (1, .int x0), (2, .int y), (3, .int z), (4, .ref o)] := hl
  refine lv_aload hx hb dL_crustIn_0 (lv_at hl 4 rfl) ?_
  refine lv_iconst (v := 0) hx hb dL_crustIn_2 (by decide) ?_
  refine lv_aload_n hx hb dL_crustIn_3 rfl (lv_at hl 0 rfl) ?_
  refine lv_iload_n hx hb dL_crustIn_4 rfl (lv_at hl 1 rfl) ?_
  refine lv_iload_n hx hb dL_crustIn_5 rfl (lv_at hl 2 rfl) ?_
  refine lv_iload_n hx hb dL_crustIn_6 rfl (lv_at hl 3 rfl) ?_
  have htab := vx_table (x := yL_crustIn) B (hts _ (show Cond.codeWith yL_crustIn cL_crustIn 6 (some .int) [(0, 12, 15, 13), (0, 12, 19, 15)] ∈ wsL_crustIn from List.mem_cons_self))
  refine hc_x (As := [.int x0, .int y, .int z]) (rest := [.int 0, .ref o]) ⟨hx, hb, hml, hown, hts⟩ (zX3_crustIn_x1 l hst D a cs _ x0 hp y z) (cwV 3 hts gL_crustIn_X3_crustIn rfl rfl rfl (by decide +kernel) ⟨Nat.le_of_ble_eq_true rfl, Nat.le_of_ble_eq_true rfl⟩) hK hN hXX hw rfl hl.1 (Nat.le_of_ble_eq_true rfl) dL_crustIn_7 ⟨Nat.le_of_ble_eq_true rfl, Nat.le_of_ble_eq_true rfl⟩ (fun qE ce H1 locs1 hS hce hcv hcl => ?_)
  refine vx_catch (name := xIO) hown [] ⟨0, 12, 15, 13⟩ [⟨0, 12, 19, 15⟩] htab (fun z hz => nomatch hz) (by decide) (by decide) (hts _ mL_crustIn_x1_0) (sX_words hXX _ _ hCaIO) hce hcv hcl ?_
  refine lv_astore (lv' := [(5, .ref qE), (0, .ref (a 0)), (1, .int x0), (2, .int y), (3, .int z), (4, .ref o)]) hx hb dL_crustIn_15 hl (by decide) rfl (fun ls hl => ?_)
  refine lv_iconst (v := 1) hx hb dL_crustIn_17 (by decide) ?_
  exact W.iret hx hb hr (fun t ht hW => ⟨⟨1, (), rfl, rfl, trivial⟩, hS.F ht⟩) hS.2.2 dL_crustIn_18 hlocks
theorem mL_crustIn_x2_0 : Cond.classLink RL 13 xIO ∈ wsL_crustIn := by decide +kernel
theorem mL_crustIn_x2_1 : Cond.classLink RL 15 xIA ∈ wsL_crustIn := by decide +kernel
set_option maxHeartbeats 4000000 in
set_option maxRecDepth 100000 in
theorem zL_crustIn_x2 (l : Launch) (hst : l.stackTraces = false) (D : va_G) (a : Nat → Nat) (cs : Nat → ClassId) (σ : sS) (o : Nat) (cJ : ClassId) (fl : Nat → Int64) (ho : ∀ i, i < 34 → a i ≠ o) (q : Nat) (hq : q < 3) (x y : Int32) (hp : x < 0 ∨ ¬ x < 0 ∧ ¬ x ≤ 9 ∨ ¬ x < 0 ∧ x ≤ 9 ∧ y < 0 ∨ ¬ x < 0 ∧ x ≤ 9 ∧ ¬ y < 0 ∧ ¬ y ≤ 9)  (sz : Nat) : Met l yL_crustIn wsL_crustIn ({ frames := 8, cells := 1, slots := 6, locals := 130 }) (va_Pc [.ref (a 0), .int (nI (5 + q)), .int x, .int y, .ref o] (hB D a cs σ o cJ fl sz)) (va_Qi (fun r (_ : Unit) => r = 2) (fun _ _ => True) (hAo a o sz)) 1 6 (hAo a o sz) := by
  refine va_MetW (cc := cL_crustIn) (maxL := 6) (ret := (some .int)) (by decide) rfl ?_
  intro p e s m args below meth c s₁ B hml hv
  obtain ⟨rfl, hB0, hXX, hPo, hKo, hNC⟩ := hv
  have hsz := hB0.1
  subst hsz
  have hx := B.exec
  have hb := B.bytes
  have hr := B.returns
  have hts := atoms_spec (ws := wsL_crustIn) B.pre
  have hown : s.vm.findClass RL = some m.cls := findClass_of_methodNamed B.named
  have hlocks := B.notSynchronized
  have hA : ∀ q : Nat, s.heap.size ≤ q → hAo a o s.heap.size q := fun q h => Or.inl (Or.inr h)
  have hK := hB0.2.2.1
  have hN := hB0.2.2.2.2
  have hw : sH D a cs (hAo a o s.heap.size) s.heap σ s.heap [] := ⟨hB0.2.1, (sD_self (sz := s.heap.size) hB0.2.2.2.1).weaken (fun _ _ _ h => Or.inl h), va_S.rf⟩
  have hl := lv_entry ([.ref (a 0), .int (nI (5 + q)), .int x, .int y, .ref o]) (n := 6) (Nat.le_of_ble_eq_true rfl)
  rw [lg_entry_eq]
  generalize (lg_sl ([.ref (a 0), .int (nI (5 + q)), .int x, .int y, .ref o]) ++ List.replicate (6 - (lg_sl ([.ref (a 0), .int (nI (5 + q)), .int x, .int y, .ref o])).length) Slot.unset).toArray = ls at hl ⊢
  have hl : lv_has ls 6 [(0, .ref (a 0)), (1, .int (nI (5 + q))), (2, .int x), (3, .int y), (4, .ref o)] := hl
  refine lv_aload hx hb dL_crustIn_0 (lv_at hl 4 rfl) ?_
  refine lv_iconst (v := 0) hx hb dL_crustIn_2 (by decide) ?_
  refine lv_aload_n hx hb dL_crustIn_3 rfl (lv_at hl 0 rfl) ?_
  refine lv_iload_n hx hb dL_crustIn_4 rfl (lv_at hl 1 rfl) ?_
  refine lv_iload_n hx hb dL_crustIn_5 rfl (lv_at hl 2 rfl) ?_
  refine lv_iload_n hx hb dL_crustIn_6 rfl (lv_at hl 3 rfl) ?_
  have htab := vx_table (x := yL_crustIn) B (hts _ (show Cond.codeWith yL_crustIn cL_crustIn 6 (some .int) [(0, 12, 15, 13), (0, 12, 19, 15)] ∈ wsL_crustIn from List.mem_cons_self))
  refine hc_x (As := [.int (nI (5 + q)), .int x, .int y]) (rest := [.int 0, .ref o]) ⟨hx, hb, hml, hown, hts⟩ (zX3_crustIn_x2 l hst D a cs _ q hq x y hp) (cwV 3 hts gL_crustIn_X3_crustIn rfl rfl rfl (by decide +kernel) ⟨Nat.le_of_ble_eq_true rfl, Nat.le_of_ble_eq_true rfl⟩) hK hN hXX hw rfl hl.1 (Nat.le_of_ble_eq_true rfl) dL_crustIn_7 ⟨Nat.le_of_ble_eq_true rfl, Nat.le_of_ble_eq_true rfl⟩ (fun qE ce H1 locs1 hS hce hcv hcl => ?_)
  refine vx_catch (name := xIA) hown [⟨0, 12, 15, 13⟩] ⟨0, 12, 19, 15⟩ [] htab (fun z hz => by rw [List.mem_singleton] at hz; subst hz; exact Or.inr ⟨by decide, xIO, (hts _ mL_crustIn_x2_0), hNC.1⟩) (by decide) (by decide) (hts _ mL_crustIn_x2_1) (sX_words hXX _ _ hCaIA) hce hcv hcl ?_
  refine lv_astore (lv' := [(5, .ref qE), (0, .ref (a 0)), (1, .int (nI (5 + q))), (2, .int x), (3, .int y), (4, .ref o)]) hx hb dL_crustIn_19 hl (by decide) rfl (fun ls hl => ?_)
  refine lv_iconst (v := 2) hx hb dL_crustIn_21 (by decide) ?_
  exact W.iret hx hb hr (fun t ht hW => ⟨⟨2, (), rfl, rfl, trivial⟩, hS.F ht⟩) hS.2.2 dL_crustIn_22 hlocks
theorem mL_drain_x1_0 : Cond.classLink RL 13 xIO ∈ wsL_drain := by decide +kernel
set_option maxHeartbeats 4000000 in
set_option maxRecDepth 100000 in
theorem zL_drain_x1 (l : Launch) (hst : l.stackTraces = false) (D : va_G) (a : Nat → Nat) (cs : Nat → ClassId) (σ : sS) (o : Nat) (cJ : ClassId) (fl : Nat → Int64) (ho : ∀ i, i < 34 → a i ≠ o) (x0 : Int32) (hp : x0 < 0 ∨ ¬ x0 < 0 ∧ ¬ x0 < 8)  (sz : Nat) : Met l yL_drain wsL_drain ({ frames := 8, cells := 1, slots := 6, locals := 127 }) (va_Pc [.ref (a 0), .int x0, .ref o] (hB D a cs σ o cJ fl sz)) (va_Qi (fun r (_ : Unit) => r = 1) (fun _ _ => True) (hAo a o sz)) 1 6 (hAo a o sz) := by
  refine va_MetW (cc := cL_drain) (maxL := 4) (ret := (some .int)) (by decide) rfl ?_
  intro p e s m args below meth c s₁ B hml hv
  obtain ⟨rfl, hB0, hXX, hPo, hKo, hNC⟩ := hv
  have hsz := hB0.1
  subst hsz
  have hx := B.exec
  have hb := B.bytes
  have hr := B.returns
  have hts := atoms_spec (ws := wsL_drain) B.pre
  have hown : s.vm.findClass RL = some m.cls := findClass_of_methodNamed B.named
  have hlocks := B.notSynchronized
  have hA : ∀ q : Nat, s.heap.size ≤ q → hAo a o s.heap.size q := fun q h => Or.inl (Or.inr h)
  have hK := hB0.2.2.1
  have hN := hB0.2.2.2.2
  have hw : sH D a cs (hAo a o s.heap.size) s.heap σ s.heap [] := ⟨hB0.2.1, (sD_self (sz := s.heap.size) hB0.2.2.2.1).weaken (fun _ _ _ h => Or.inl h), va_S.rf⟩
  have hl := lv_entry ([.ref (a 0), .int x0, .ref o]) (n := 4) (Nat.le_of_ble_eq_true rfl)
  rw [lg_entry_eq]
  generalize (lg_sl ([.ref (a 0), .int x0, .ref o]) ++ List.replicate (4 - (lg_sl ([.ref (a 0), .int x0, .ref o])).length) Slot.unset).toArray = ls at hl ⊢
  have hl : lv_has ls 4 [(0, .ref (a 0)), (1, .int x0), (2, .ref o)] := hl
  refine lv_aload_n hx hb dL_drain_0 rfl (lv_at hl 2 rfl) ?_
  refine lv_iconst (v := 0) hx hb dL_drain_1 (by decide) ?_
  refine lv_aload_n hx hb dL_drain_2 rfl (lv_at hl 0 rfl) ?_
  refine lv_iload_n hx hb dL_drain_3 rfl (lv_at hl 1 rfl) ?_
  have htab := vx_table (x := yL_drain) B (hts _ (show Cond.codeWith yL_drain cL_drain 4 (some .int) [(0, 9, 12, 13), (0, 9, 15, 17)] ∈ wsL_drain from List.mem_cons_self))
  refine hc_x (As := [.int x0]) (rest := [.int 0, .ref o]) ⟨hx, hb, hml, hown, hts⟩ (zX3_drain_x1 l hst D a cs _ x0 hp) (cwV 1 hts gL_drain_X3_drain rfl rfl rfl (by decide +kernel) ⟨Nat.le_of_ble_eq_true rfl, Nat.le_of_ble_eq_true rfl⟩) hK hN hXX hw rfl hl.1 (Nat.le_of_ble_eq_true rfl) dL_drain_4 ⟨Nat.le_of_ble_eq_true rfl, Nat.le_of_ble_eq_true rfl⟩ (fun qE ce H1 locs1 hS hce hcv hcl => ?_)
  refine vx_catch (name := xIO) hown [] ⟨0, 9, 12, 13⟩ [⟨0, 9, 15, 17⟩] htab (fun z hz => nomatch hz) (by decide) (by decide) (hts _ mL_drain_x1_0) (sX_words hXX _ _ hCaIO) hce hcv hcl ?_
  refine lv_astore_n (lv' := [(3, .ref qE), (0, .ref (a 0)), (1, .int x0), (2, .ref o)]) hx hb dL_drain_12 rfl hl (by decide) rfl (fun ls hl => ?_)
  refine lv_iconst (v := 1) hx hb dL_drain_13 (by decide) ?_
  exact W.iret hx hb hr (fun t ht hW => ⟨⟨1, (), rfl, rfl, trivial⟩, hS.F ht⟩) hS.2.2 dL_drain_14 hlocks
theorem mL_drain_x2_0 : Cond.classLink RL 13 xIO ∈ wsL_drain := by decide +kernel
theorem mL_drain_x2_1 : Cond.classLink RL 17 xIS ∈ wsL_drain := by decide +kernel
set_option maxHeartbeats 4000000 in
set_option maxRecDepth 100000 in
theorem zL_drain_x2 (l : Launch) (hst : l.stackTraces = false) (D : va_G) (a : Nat → Nat) (cs : Nat → ClassId) (σ : sS) (o : Nat) (cJ : ClassId) (fl : Nat → Int64) (ho : ∀ i, i < 34 → a i ≠ o) (k : Nat) (hk : k < 8) (h1 : ¬ 1 ≤ σ (5 + 8 * 0 + k) 1) (sz : Nat) : Met l yL_drain wsL_drain ({ frames := 7, cells := 1, slots := 6, locals := 106 }) (va_Pc [.ref (a 0), .int (nI k), .ref o] (hB D a cs σ o cJ fl sz)) (va_Qi (fun r (_ : Unit) => r = 2) (fun _ _ => True) (hAo a o sz)) 1 6 (hAo a o sz) := by
  refine va_MetW (cc := cL_drain) (maxL := 4) (ret := (some .int)) (by decide) rfl ?_
  intro p e s m args below meth c s₁ B hml hv
  obtain ⟨rfl, hB0, hXX, hPo, hKo, hNC⟩ := hv
  have hsz := hB0.1
  subst hsz
  have hx := B.exec
  have hb := B.bytes
  have hr := B.returns
  have hts := atoms_spec (ws := wsL_drain) B.pre
  have hown : s.vm.findClass RL = some m.cls := findClass_of_methodNamed B.named
  have hlocks := B.notSynchronized
  have hA : ∀ q : Nat, s.heap.size ≤ q → hAo a o s.heap.size q := fun q h => Or.inl (Or.inr h)
  have hK := hB0.2.2.1
  have hN := hB0.2.2.2.2
  have hw : sH D a cs (hAo a o s.heap.size) s.heap σ s.heap [] := ⟨hB0.2.1, (sD_self (sz := s.heap.size) hB0.2.2.2.1).weaken (fun _ _ _ h => Or.inl h), va_S.rf⟩
  have hl := lv_entry ([.ref (a 0), .int (nI k), .ref o]) (n := 4) (Nat.le_of_ble_eq_true rfl)
  rw [lg_entry_eq]
  generalize (lg_sl ([.ref (a 0), .int (nI k), .ref o]) ++ List.replicate (4 - (lg_sl ([.ref (a 0), .int (nI k), .ref o])).length) Slot.unset).toArray = ls at hl ⊢
  have hl : lv_has ls 4 [(0, .ref (a 0)), (1, .int (nI k)), (2, .ref o)] := hl
  refine lv_aload_n hx hb dL_drain_0 rfl (lv_at hl 2 rfl) ?_
  refine lv_iconst (v := 0) hx hb dL_drain_1 (by decide) ?_
  refine lv_aload_n hx hb dL_drain_2 rfl (lv_at hl 0 rfl) ?_
  refine lv_iload_n hx hb dL_drain_3 rfl (lv_at hl 1 rfl) ?_
  have htab := vx_table (x := yL_drain) B (hts _ (show Cond.codeWith yL_drain cL_drain 4 (some .int) [(0, 9, 12, 13), (0, 9, 15, 17)] ∈ wsL_drain from List.mem_cons_self))
  refine hc_x (As := [.int (nI k)]) (rest := [.int 0, .ref o]) ⟨hx, hb, hml, hown, hts⟩ (zX3_drain_x2 l hst D a cs _ k hk h1) (cwV 1 hts gL_drain_X3_drain rfl rfl rfl (by decide +kernel) ⟨Nat.le_of_ble_eq_true rfl, Nat.le_of_ble_eq_true rfl⟩) hK hN hXX hw rfl hl.1 (Nat.le_of_ble_eq_true rfl) dL_drain_4 ⟨Nat.le_of_ble_eq_true rfl, Nat.le_of_ble_eq_true rfl⟩ (fun qE ce H1 locs1 hS hce hcv hcl => ?_)
  refine vx_catch (name := xIS) hown [⟨0, 9, 12, 13⟩] ⟨0, 9, 15, 17⟩ [] htab (fun z hz => by rw [List.mem_singleton] at hz; subst hz; exact Or.inr ⟨by decide, xIO, (hts _ mL_drain_x2_0), hNC.2.1⟩) (by decide) (by decide) (hts _ mL_drain_x2_1) (sX_words hXX _ _ hCaIS) hce hcv hcl ?_
  refine lv_astore_n (lv' := [(3, .ref qE), (0, .ref (a 0)), (1, .int (nI k)), (2, .ref o)]) hx hb dL_drain_15 rfl hl (by decide) rfl (fun ls hl => ?_)
  refine lv_iconst (v := 2) hx hb dL_drain_16 (by decide) ?_
  exact W.iret hx hb hr (fun t ht hW => ⟨⟨2, (), rfl, rfl, trivial⟩, hS.F ht⟩) hS.2.2 dL_drain_17 hlocks
theorem mL_flower_x1_0 : Cond.classLink RL 13 xIO ∈ wsL_flower := by decide +kernel
set_option maxHeartbeats 4000000 in
set_option maxRecDepth 100000 in
theorem zL_flower_x1 (l : Launch) (hst : l.stackTraces = false) (D : va_G) (a : Nat → Nat) (cs : Nat → ClassId) (σ : sS) (o : Nat) (cJ : ClassId) (fl : Nat → Int64) (ho : ∀ i, i < 34 → a i ≠ o) (x0 : Int32) (hp : x0 < 5 ∨ ¬ x0 < 5 ∧ ¬ x0 < 8)  (sz : Nat) : Met l yL_flower wsL_flower ({ frames := 8, cells := 1, slots := 6, locals := 128 }) (va_Pc [.ref (a 0), .int x0, .ref o] (hB D a cs σ o cJ fl sz)) (va_Qi (fun r (_ : Unit) => r = 1) (fun _ _ => True) (hAo a o sz)) 1 6 (hAo a o sz) := by
  refine va_MetW (cc := cL_flower) (maxL := 4) (ret := (some .int)) (by decide) rfl ?_
  intro p e s m args below meth c s₁ B hml hv
  obtain ⟨rfl, hB0, hXX, hPo, hKo, hNC⟩ := hv
  have hsz := hB0.1
  subst hsz
  have hx := B.exec
  have hb := B.bytes
  have hr := B.returns
  have hts := atoms_spec (ws := wsL_flower) B.pre
  have hown : s.vm.findClass RL = some m.cls := findClass_of_methodNamed B.named
  have hlocks := B.notSynchronized
  have hA : ∀ q : Nat, s.heap.size ≤ q → hAo a o s.heap.size q := fun q h => Or.inl (Or.inr h)
  have hK := hB0.2.2.1
  have hN := hB0.2.2.2.2
  have hw : sH D a cs (hAo a o s.heap.size) s.heap σ s.heap [] := ⟨hB0.2.1, (sD_self (sz := s.heap.size) hB0.2.2.2.1).weaken (fun _ _ _ h => Or.inl h), va_S.rf⟩
  have hl := lv_entry ([.ref (a 0), .int x0, .ref o]) (n := 4) (Nat.le_of_ble_eq_true rfl)
  rw [lg_entry_eq]
  generalize (lg_sl ([.ref (a 0), .int x0, .ref o]) ++ List.replicate (4 - (lg_sl ([.ref (a 0), .int x0, .ref o])).length) Slot.unset).toArray = ls at hl ⊢
  have hl : lv_has ls 4 [(0, .ref (a 0)), (1, .int x0), (2, .ref o)] := hl
  refine lv_aload_n hx hb dL_flower_0 rfl (lv_at hl 2 rfl) ?_
  refine lv_iconst (v := 0) hx hb dL_flower_1 (by decide) ?_
  refine lv_aload_n hx hb dL_flower_2 rfl (lv_at hl 0 rfl) ?_
  refine lv_iload_n hx hb dL_flower_3 rfl (lv_at hl 1 rfl) ?_
  have htab := vx_table (x := yL_flower) B (hts _ (show Cond.codeWith yL_flower cL_flower 4 (some .int) [(0, 9, 12, 13), (0, 9, 15, 17)] ∈ wsL_flower from List.mem_cons_self))
  refine hc_x (As := [.int x0]) (rest := [.int 0, .ref o]) ⟨hx, hb, hml, hown, hts⟩ (zX3_flower_x1 l hst D a cs _ x0 hp) (cwV 1 hts gL_flower_X3_flower rfl rfl rfl (by decide +kernel) ⟨Nat.le_of_ble_eq_true rfl, Nat.le_of_ble_eq_true rfl⟩) hK hN hXX hw rfl hl.1 (Nat.le_of_ble_eq_true rfl) dL_flower_4 ⟨Nat.le_of_ble_eq_true rfl, Nat.le_of_ble_eq_true rfl⟩ (fun qE ce H1 locs1 hS hce hcv hcl => ?_)
  refine vx_catch (name := xIO) hown [] ⟨0, 9, 12, 13⟩ [⟨0, 9, 15, 17⟩] htab (fun z hz => nomatch hz) (by decide) (by decide) (hts _ mL_flower_x1_0) (sX_words hXX _ _ hCaIO) hce hcv hcl ?_
  refine lv_astore_n (lv' := [(3, .ref qE), (0, .ref (a 0)), (1, .int x0), (2, .ref o)]) hx hb dL_flower_12 rfl hl (by decide) rfl (fun ls hl => ?_)
  refine lv_iconst (v := 1) hx hb dL_flower_13 (by decide) ?_
  exact W.iret hx hb hr (fun t ht hW => ⟨⟨1, (), rfl, rfl, trivial⟩, hS.F ht⟩) hS.2.2 dL_flower_14 hlocks
theorem mL_flower_x2_0 : Cond.classLink RL 13 xIO ∈ wsL_flower := by decide +kernel
theorem mL_flower_x2_1 : Cond.classLink RL 17 xIS ∈ wsL_flower := by decide +kernel
set_option maxHeartbeats 4000000 in
set_option maxRecDepth 100000 in
theorem zL_flower_x2 (l : Launch) (hst : l.stackTraces = false) (D : va_G) (a : Nat → Nat) (cs : Nat → ClassId) (σ : sS) (o : Nat) (cJ : ClassId) (fl : Nat → Int64) (ho : ∀ i, i < 34 → a i ≠ o) (q : Nat) (hq : q < 3) (h1 : σ (1 + 0) 2 < 6) (sz : Nat) : Met l yL_flower wsL_flower ({ frames := 7, cells := 1, slots := 6, locals := 107 }) (va_Pc [.ref (a 0), .int (nI (5 + q)), .ref o] (hB D a cs σ o cJ fl sz)) (va_Qi (fun r (_ : Unit) => r = 2) (fun _ _ => True) (hAo a o sz)) 1 6 (hAo a o sz) := by
  refine va_MetW (cc := cL_flower) (maxL := 4) (ret := (some .int)) (by decide) rfl ?_
  intro p e s m args below meth c s₁ B hml hv
  obtain ⟨rfl, hB0, hXX, hPo, hKo, hNC⟩ := hv
  have hsz := hB0.1
  subst hsz
  have hx := B.exec
  have hb := B.bytes
  have hr := B.returns
  have hts := atoms_spec (ws := wsL_flower) B.pre
  have hown : s.vm.findClass RL = some m.cls := findClass_of_methodNamed B.named
  have hlocks := B.notSynchronized
  have hA : ∀ q : Nat, s.heap.size ≤ q → hAo a o s.heap.size q := fun q h => Or.inl (Or.inr h)
  have hK := hB0.2.2.1
  have hN := hB0.2.2.2.2
  have hw : sH D a cs (hAo a o s.heap.size) s.heap σ s.heap [] := ⟨hB0.2.1, (sD_self (sz := s.heap.size) hB0.2.2.2.1).weaken (fun _ _ _ h => Or.inl h), va_S.rf⟩
  have hl := lv_entry ([.ref (a 0), .int (nI (5 + q)), .ref o]) (n := 4) (Nat.le_of_ble_eq_true rfl)
  rw [lg_entry_eq]
  generalize (lg_sl ([.ref (a 0), .int (nI (5 + q)), .ref o]) ++ List.replicate (4 - (lg_sl ([.ref (a 0), .int (nI (5 + q)), .ref o])).length) Slot.unset).toArray = ls at hl ⊢
  have hl : lv_has ls 4 [(0, .ref (a 0)), (1, .int (nI (5 + q))), (2, .ref o)] := hl
  refine lv_aload_n hx hb dL_flower_0 rfl (lv_at hl 2 rfl) ?_
  refine lv_iconst (v := 0) hx hb dL_flower_1 (by decide) ?_
  refine lv_aload_n hx hb dL_flower_2 rfl (lv_at hl 0 rfl) ?_
  refine lv_iload_n hx hb dL_flower_3 rfl (lv_at hl 1 rfl) ?_
  have htab := vx_table (x := yL_flower) B (hts _ (show Cond.codeWith yL_flower cL_flower 4 (some .int) [(0, 9, 12, 13), (0, 9, 15, 17)] ∈ wsL_flower from List.mem_cons_self))
  refine hc_x (As := [.int (nI (5 + q))]) (rest := [.int 0, .ref o]) ⟨hx, hb, hml, hown, hts⟩ (zX3_flower_x2 l hst D a cs _ q hq h1) (cwV 1 hts gL_flower_X3_flower rfl rfl rfl (by decide +kernel) ⟨Nat.le_of_ble_eq_true rfl, Nat.le_of_ble_eq_true rfl⟩) hK hN hXX hw rfl hl.1 (Nat.le_of_ble_eq_true rfl) dL_flower_4 ⟨Nat.le_of_ble_eq_true rfl, Nat.le_of_ble_eq_true rfl⟩ (fun qE ce H1 locs1 hS hce hcv hcl => ?_)
  refine vx_catch (name := xIS) hown [⟨0, 9, 12, 13⟩] ⟨0, 9, 15, 17⟩ [] htab (fun z hz => by rw [List.mem_singleton] at hz; subst hz; exact Or.inr ⟨by decide, xIO, (hts _ mL_flower_x2_0), hNC.2.1⟩) (by decide) (by decide) (hts _ mL_flower_x2_1) (sX_words hXX _ _ hCaIS) hce hcv hcl ?_
  refine lv_astore_n (lv' := [(3, .ref qE), (0, .ref (a 0)), (1, .int (nI (5 + q))), (2, .ref o)]) hx hb dL_flower_15 rfl hl (by decide) rfl (fun ls hl => ?_)
  refine lv_iconst (v := 2) hx hb dL_flower_16 (by decide) ?_
  exact W.iret hx hb hr (fun t ht hW => ⟨⟨2, (), rfl, rfl, trivial⟩, hS.F ht⟩) hS.2.2 dL_flower_17 hlocks
theorem mL_gate_x1_0 : Cond.classLink RL 13 xIO ∈ wsL_gate := by decide +kernel
set_option maxHeartbeats 4000000 in
set_option maxRecDepth 100000 in
theorem zL_gate_x1 (l : Launch) (hst : l.stackTraces = false) (D : va_G) (a : Nat → Nat) (cs : Nat → ClassId) (σ : sS) (o : Nat) (cJ : ClassId) (fl : Nat → Int64) (ho : ∀ i, i < 34 → a i ≠ o) (x0 : Int32) (hp : x0 < 0 ∨ ¬ x0 < 0 ∧ ¬ x0 < 8) (y : Int32) (sz : Nat) : Met l yL_gate wsL_gate ({ frames := 8, cells := 1, slots := 6, locals := 128 }) (va_Pc [.ref (a 0), .int x0, .int y, .ref o] (hB D a cs σ o cJ fl sz)) (va_Qi (fun r (_ : Unit) => r = 1) (fun _ _ => True) (hAo a o sz)) 1 6 (hAo a o sz) := by
  refine va_MetW (cc := cL_gate) (maxL := 5) (ret := (some .int)) (by decide) rfl ?_
  intro p e s m args below meth c s₁ B hml hv
  obtain ⟨rfl, hB0, hXX, hPo, hKo, hNC⟩ := hv
  have hsz := hB0.1
  subst hsz
  have hx := B.exec
  have hb := B.bytes
  have hr := B.returns
  have hts := atoms_spec (ws := wsL_gate) B.pre
  have hown : s.vm.findClass RL = some m.cls := findClass_of_methodNamed B.named
  have hlocks := B.notSynchronized
  have hA : ∀ q : Nat, s.heap.size ≤ q → hAo a o s.heap.size q := fun q h => Or.inl (Or.inr h)
  have hK := hB0.2.2.1
  have hN := hB0.2.2.2.2
  have hw : sH D a cs (hAo a o s.heap.size) s.heap σ s.heap [] := ⟨hB0.2.1, (sD_self (sz := s.heap.size) hB0.2.2.2.1).weaken (fun _ _ _ h => Or.inl h), va_S.rf⟩
  have hl := lv_entry ([.ref (a 0), .int x0, .int y, .ref o]) (n := 5) (Nat.le_of_ble_eq_true rfl)
  rw [lg_entry_eq]
  generalize (lg_sl ([.ref (a 0), .int x0, .int y, .ref o]) ++ List.replicate (5 - (lg_sl ([.ref (a 0), .int x0, .int y, .ref o])).length) Slot.unset).toArray = ls at hl ⊢
  have hl : lv_has ls 5 [(0, .ref (a 0)), (1, .int x0), (2, .int y), (3, .ref o)] := hl
  refine lv_aload_n hx hb dL_gate_0 rfl (lv_at hl 3 rfl) ?_
  refine lv_iconst (v := 0) hx hb dL_gate_1 (by decide) ?_
  refine lv_aload_n hx hb dL_gate_2 rfl (lv_at hl 0 rfl) ?_
  refine lv_iload_n hx hb dL_gate_3 rfl (lv_at hl 1 rfl) ?_
  refine lv_iload_n hx hb dL_gate_4 rfl (lv_at hl 2 rfl) ?_
  have htab := vx_table (x := yL_gate) B (hts _ (show Cond.codeWith yL_gate cL_gate 5 (some .int) [(0, 17, 20, 13)] ∈ wsL_gate from List.mem_cons_self))
  refine hc_x (As := [.int x0, .int y]) (rest := [.int 0, .ref o]) ⟨hx, hb, hml, hown, hts⟩ (zX3_gate_x1 l hst D a cs _ x0 hp y) (cwV 2 hts gL_gate_X3_gate rfl rfl rfl (by decide +kernel) ⟨Nat.le_of_ble_eq_true rfl, Nat.le_of_ble_eq_true rfl⟩) hK hN hXX hw rfl hl.1 (Nat.le_of_ble_eq_true rfl) dL_gate_5 ⟨Nat.le_of_ble_eq_true rfl, Nat.le_of_ble_eq_true rfl⟩ (fun qE ce H1 locs1 hS hce hcv hcl => ?_)
  refine vx_catch (name := xIO) hown [] ⟨0, 17, 20, 13⟩ [] htab (fun z hz => nomatch hz) (by decide) (by decide) (hts _ mL_gate_x1_0) (sX_words hXX _ _ hCaIO) hce hcv hcl ?_
  refine lv_astore (lv' := [(4, .ref qE), (0, .ref (a 0)), (1, .int x0), (2, .int y), (3, .ref o)]) hx hb dL_gate_20 hl (by decide) rfl (fun ls hl => ?_)
  refine lv_iconst (v := 1) hx hb dL_gate_22 (by decide) ?_
  exact W.iret hx hb hr (fun t ht hW => ⟨⟨1, (), rfl, rfl, trivial⟩, hS.F ht⟩) hS.2.2 dL_gate_23 hlocks
theorem mL_harvest_x1_0 : Cond.classLink RL 13 xIO ∈ wsL_harvest := by decide +kernel
set_option maxHeartbeats 4000000 in
set_option maxRecDepth 100000 in
theorem zL_harvest_x1 (l : Launch) (hst : l.stackTraces = false) (D : va_G) (a : Nat → Nat) (cs : Nat → ClassId) (σ : sS) (o : Nat) (cJ : ClassId) (fl : Nat → Int64) (ho : ∀ i, i < 34 → a i ≠ o) (x0 : Int32) (hp : x0 < 5 ∨ ¬ x0 < 5 ∧ ¬ x0 < 8) (y : Int32) (sz : Nat) : Met l yL_harvest wsL_harvest ({ frames := 8, cells := 1, slots := 6, locals := 131 }) (va_Pc [.ref (a 0), .int x0, .int y, .ref o] (hB D a cs σ o cJ fl sz)) (va_Qi (fun r (_ : Unit) => r = 1) (fun _ _ => True) (hAo a o sz)) 1 6 (hAo a o sz) := by
  refine va_MetW (cc := cL_harvest) (maxL := 5) (ret := (some .int)) (by decide) rfl ?_
  intro p e s m args below meth c s₁ B hml hv
  obtain ⟨rfl, hB0, hXX, hPo, hKo, hNC⟩ := hv
  have hsz := hB0.1
  subst hsz
  have hx := B.exec
  have hb := B.bytes
  have hr := B.returns
  have hts := atoms_spec (ws := wsL_harvest) B.pre
  have hown : s.vm.findClass RL = some m.cls := findClass_of_methodNamed B.named
  have hlocks := B.notSynchronized
  have hA : ∀ q : Nat, s.heap.size ≤ q → hAo a o s.heap.size q := fun q h => Or.inl (Or.inr h)
  have hK := hB0.2.2.1
  have hN := hB0.2.2.2.2
  have hw : sH D a cs (hAo a o s.heap.size) s.heap σ s.heap [] := ⟨hB0.2.1, (sD_self (sz := s.heap.size) hB0.2.2.2.1).weaken (fun _ _ _ h => Or.inl h), va_S.rf⟩
  have hl := lv_entry ([.ref (a 0), .int x0, .int y, .ref o]) (n := 5) (Nat.le_of_ble_eq_true rfl)
  rw [lg_entry_eq]
  generalize (lg_sl ([.ref (a 0), .int x0, .int y, .ref o]) ++ List.replicate (5 - (lg_sl ([.ref (a 0), .int x0, .int y, .ref o])).length) Slot.unset).toArray = ls at hl ⊢
  have hl : lv_has ls 5 [(0, .ref (a 0)), (1, .int x0), (2, .int y), (3, .ref o)] := hl
  refine lv_aload_n hx hb dL_harvest_0 rfl (lv_at hl 3 rfl) ?_
  refine lv_iconst (v := 0) hx hb dL_harvest_1 (by decide) ?_
  refine lv_aload_n hx hb dL_harvest_2 rfl (lv_at hl 0 rfl) ?_
  refine lv_iload_n hx hb dL_harvest_3 rfl (lv_at hl 1 rfl) ?_
  refine lv_iload_n hx hb dL_harvest_4 rfl (lv_at hl 2 rfl) ?_
  have htab := vx_table (x := yL_harvest) B (hts _ (show Cond.codeWith yL_harvest cL_harvest 5 (some .int) [(0, 10, 13, 13), (0, 10, 17, 17)] ∈ wsL_harvest from List.mem_cons_self))
  refine hc_x (As := [.int x0, .int y]) (rest := [.int 0, .ref o]) ⟨hx, hb, hml, hown, hts⟩ (zX3_harvest_x1 l hst D a cs _ x0 hp y) (cwV 2 hts gL_harvest_X3_harvest rfl rfl rfl (by decide +kernel) ⟨Nat.le_of_ble_eq_true rfl, Nat.le_of_ble_eq_true rfl⟩) hK hN hXX hw rfl hl.1 (Nat.le_of_ble_eq_true rfl) dL_harvest_5 ⟨Nat.le_of_ble_eq_true rfl, Nat.le_of_ble_eq_true rfl⟩ (fun qE ce H1 locs1 hS hce hcv hcl => ?_)
  refine vx_catch (name := xIO) hown [] ⟨0, 10, 13, 13⟩ [⟨0, 10, 17, 17⟩] htab (fun z hz => nomatch hz) (by decide) (by decide) (hts _ mL_harvest_x1_0) (sX_words hXX _ _ hCaIO) hce hcv hcl ?_
  refine lv_astore (lv' := [(4, .ref qE), (0, .ref (a 0)), (1, .int x0), (2, .int y), (3, .ref o)]) hx hb dL_harvest_13 hl (by decide) rfl (fun ls hl => ?_)
  refine lv_iconst (v := 1) hx hb dL_harvest_15 (by decide) ?_
  exact W.iret hx hb hr (fun t ht hW => ⟨⟨1, (), rfl, rfl, trivial⟩, hS.F ht⟩) hS.2.2 dL_harvest_16 hlocks
theorem mL_harvest_x2_0 : Cond.classLink RL 13 xIO ∈ wsL_harvest := by decide +kernel
theorem mL_harvest_x2_1 : Cond.classLink RL 17 xIS ∈ wsL_harvest := by decide +kernel
set_option maxHeartbeats 4000000 in
set_option maxRecDepth 100000 in
theorem zL_harvest_x2 (l : Launch) (hst : l.stackTraces = false) (D : va_G) (a : Nat → Nat) (cs : Nat → ClassId) (σ : sS) (o : Nat) (cJ : ClassId) (fl : Nat → Int64) (ho : ∀ i, i < 34 → a i ≠ o) (q : Nat) (hq : q < 3) (y : Int32) (h1 : f_X1_canBeHarvested (σ (5 + 8 * 0 + (5 + q))) = 0) (sz : Nat) : Met l yL_harvest wsL_harvest ({ frames := 7, cells := 1, slots := 6, locals := 110 }) (va_Pc [.ref (a 0), .int (nI (5 + q)), .int y, .ref o] (hB D a cs σ o cJ fl sz)) (va_Qi (fun r (_ : Unit) => r = 2) (fun _ _ => True) (hAo a o sz)) 1 6 (hAo a o sz) := by
  refine va_MetW (cc := cL_harvest) (maxL := 5) (ret := (some .int)) (by decide) rfl ?_
  intro p e s m args below meth c s₁ B hml hv
  obtain ⟨rfl, hB0, hXX, hPo, hKo, hNC⟩ := hv
  have hsz := hB0.1
  subst hsz
  have hx := B.exec
  have hb := B.bytes
  have hr := B.returns
  have hts := atoms_spec (ws := wsL_harvest) B.pre
  have hown : s.vm.findClass RL = some m.cls := findClass_of_methodNamed B.named
  have hlocks := B.notSynchronized
  have hA : ∀ q : Nat, s.heap.size ≤ q → hAo a o s.heap.size q := fun q h => Or.inl (Or.inr h)
  have hK := hB0.2.2.1
  have hN := hB0.2.2.2.2
  have hw : sH D a cs (hAo a o s.heap.size) s.heap σ s.heap [] := ⟨hB0.2.1, (sD_self (sz := s.heap.size) hB0.2.2.2.1).weaken (fun _ _ _ h => Or.inl h), va_S.rf⟩
  have hl := lv_entry ([.ref (a 0), .int (nI (5 + q)), .int y, .ref o]) (n := 5) (Nat.le_of_ble_eq_true rfl)
  rw [lg_entry_eq]
  generalize (lg_sl ([.ref (a 0), .int (nI (5 + q)), .int y, .ref o]) ++ List.replicate (5 - (lg_sl ([.ref (a 0), .int (nI (5 + q)), .int y, .ref o])).length) Slot.unset).toArray = ls at hl ⊢
  have hl : lv_has ls 5 [(0, .ref (a 0)), (1, .int (nI (5 + q))), (2, .int y), (3, .ref o)] := hl
  refine lv_aload_n hx hb dL_harvest_0 rfl (lv_at hl 3 rfl) ?_
  refine lv_iconst (v := 0) hx hb dL_harvest_1 (by decide) ?_
  refine lv_aload_n hx hb dL_harvest_2 rfl (lv_at hl 0 rfl) ?_
  refine lv_iload_n hx hb dL_harvest_3 rfl (lv_at hl 1 rfl) ?_
  refine lv_iload_n hx hb dL_harvest_4 rfl (lv_at hl 2 rfl) ?_
  have htab := vx_table (x := yL_harvest) B (hts _ (show Cond.codeWith yL_harvest cL_harvest 5 (some .int) [(0, 10, 13, 13), (0, 10, 17, 17)] ∈ wsL_harvest from List.mem_cons_self))
  refine hc_x (As := [.int (nI (5 + q)), .int y]) (rest := [.int 0, .ref o]) ⟨hx, hb, hml, hown, hts⟩ (zX3_harvest_x2 l hst D a cs _ q hq y h1) (cwV 2 hts gL_harvest_X3_harvest rfl rfl rfl (by decide +kernel) ⟨Nat.le_of_ble_eq_true rfl, Nat.le_of_ble_eq_true rfl⟩) hK hN hXX hw rfl hl.1 (Nat.le_of_ble_eq_true rfl) dL_harvest_5 ⟨Nat.le_of_ble_eq_true rfl, Nat.le_of_ble_eq_true rfl⟩ (fun qE ce H1 locs1 hS hce hcv hcl => ?_)
  refine vx_catch (name := xIS) hown [⟨0, 10, 13, 13⟩] ⟨0, 10, 17, 17⟩ [] htab (fun z hz => by rw [List.mem_singleton] at hz; subst hz; exact Or.inr ⟨by decide, xIO, (hts _ mL_harvest_x2_0), hNC.2.1⟩) (by decide) (by decide) (hts _ mL_harvest_x2_1) (sX_words hXX _ _ hCaIS) hce hcv hcl ?_
  refine lv_astore (lv' := [(4, .ref qE), (0, .ref (a 0)), (1, .int (nI (5 + q))), (2, .int y), (3, .ref o)]) hx hb dL_harvest_17 hl (by decide) rfl (fun ls hl => ?_)
  refine lv_iconst (v := 2) hx hb dL_harvest_19 (by decide) ?_
  exact W.iret hx hb hr (fun t ht hW => ⟨⟨2, (), rfl, rfl, trivial⟩, hS.F ht⟩) hS.2.2 dL_harvest_20 hlocks
theorem mL_many_x1_0 : Cond.classLink RL 15 xIA ∈ wsL_many := by decide +kernel
set_option maxHeartbeats 4000000 in
set_option maxRecDepth 100000 in
theorem zL_many_x1 (l : Launch) (hst : l.stackTraces = false) (D : va_G) (a : Nat → Nat) (cs : Nat → ClassId) (σ : sS) (o : Nat) (cJ : ClassId) (fl : Nat → Int64) (ho : ∀ i, i < 34 → a i ≠ o) (x : Int32) (h1 : x.toInt < 0 ∨ 17 < x.toInt) (sz : Nat) : Met l yL_many wsL_many ({ frames := 7, cells := 1, slots := 6, locals := 105 }) (va_Pc [.ref (a 0), .int x, .ref o] (hB D a cs σ o cJ fl sz)) (va_Qi (fun r (_ : Unit) => r = 1) (fun _ _ => True) (hAo a o sz)) 1 6 (hAo a o sz) := by
  refine va_MetW (cc := cL_many) (maxL := 4) (ret := (some .int)) (by decide) rfl ?_
  intro p e s m args below meth c s₁ B hml hv
  obtain ⟨rfl, hB0, hXX, hPo, hKo, hNC⟩ := hv
  have hsz := hB0.1
  subst hsz
  have hx := B.exec
  have hb := B.bytes
  have hr := B.returns
  have hts := atoms_spec (ws := wsL_many) B.pre
  have hown : s.vm.findClass RL = some m.cls := findClass_of_methodNamed B.named
  have hlocks := B.notSynchronized
  have hA : ∀ q : Nat, s.heap.size ≤ q → hAo a o s.heap.size q := fun q h => Or.inl (Or.inr h)
  have hK := hB0.2.2.1
  have hN := hB0.2.2.2.2
  have hw : sH D a cs (hAo a o s.heap.size) s.heap σ s.heap [] := ⟨hB0.2.1, (sD_self (sz := s.heap.size) hB0.2.2.2.1).weaken (fun _ _ _ h => Or.inl h), va_S.rf⟩
  have hl := lv_entry ([.ref (a 0), .int x, .ref o]) (n := 4) (Nat.le_of_ble_eq_true rfl)
  rw [lg_entry_eq]
  generalize (lg_sl ([.ref (a 0), .int x, .ref o]) ++ List.replicate (4 - (lg_sl ([.ref (a 0), .int x, .ref o])).length) Slot.unset).toArray = ls at hl ⊢
  have hl : lv_has ls 4 [(0, .ref (a 0)), (1, .int x), (2, .ref o)] := hl
  refine lv_aload_n hx hb dL_many_0 rfl (lv_at hl 2 rfl) ?_
  refine lv_iconst (v := 0) hx hb dL_many_1 (by decide) ?_
  refine lv_aload_n hx hb dL_many_2 rfl (lv_at hl 0 rfl) ?_
  refine lv_iload_n hx hb dL_many_3 rfl (lv_at hl 1 rfl) ?_
  have htab := vx_table (x := yL_many) B (hts _ (show Cond.codeWith yL_many cL_many 4 (some .int) [(0, 9, 12, 15)] ∈ wsL_many from List.mem_cons_self))
  refine hc_x (As := [.int x]) (rest := [.int 0, .ref o]) ⟨hx, hb, hml, hown, hts⟩ (zX3_many_x1 l hst D a cs _ x h1) (cwV 1 hts gL_many_X3_many rfl rfl rfl (by decide +kernel) ⟨Nat.le_of_ble_eq_true rfl, Nat.le_of_ble_eq_true rfl⟩) hK hN hXX hw rfl hl.1 (Nat.le_of_ble_eq_true rfl) dL_many_4 ⟨Nat.le_of_ble_eq_true rfl, Nat.le_of_ble_eq_true rfl⟩ (fun qE ce H1 locs1 hS hce hcv hcl => ?_)
  refine vx_catch (name := xIA) hown [] ⟨0, 9, 12, 15⟩ [] htab (fun z hz => nomatch hz) (by decide) (by decide) (hts _ mL_many_x1_0) (sX_words hXX _ _ hCaIA) hce hcv hcl ?_
  refine lv_astore_n (lv' := [(3, .ref qE), (0, .ref (a 0)), (1, .int x), (2, .ref o)]) hx hb dL_many_12 rfl hl (by decide) rfl (fun ls hl => ?_)
  refine lv_iconst (v := 1) hx hb dL_many_13 (by decide) ?_
  exact W.iret hx hb hr (fun t ht hW => ⟨⟨1, (), rfl, rfl, trivial⟩, hS.F ht⟩) hS.2.2 dL_many_14 hlocks
theorem mL_ofFamily_x1_0 : Cond.classLink RL 13 xIO ∈ wsL_ofFamily := by decide +kernel
set_option maxHeartbeats 4000000 in
set_option maxRecDepth 100000 in
theorem zL_ofFamily_x1 (l : Launch) (hst : l.stackTraces = false) (D : va_G) (a : Nat → Nat) (cs : Nat → ClassId) (σ : sS) (o : Nat) (cJ : ClassId) (fl : Nat → Int64) (ho : ∀ i, i < 34 → a i ≠ o) (x0 : Int32) (hp : x0 < 0 ∨ ¬ x0 < 0 ∧ ¬ x0 < σ 0 3) (y : Int32) (sz : Nat) : Met l yL_ofFamily wsL_ofFamily ({ frames := 8, cells := 1, slots := 6, locals := 127 }) (va_Pc [.ref (a 0), .int x0, .int y, .ref o] (hB D a cs σ o cJ fl sz)) (va_Qi (fun r (_ : Unit) => r = 1) (fun _ _ => True) (hAo a o sz)) 1 6 (hAo a o sz) := by
  refine va_MetW (cc := cL_ofFamily) (maxL := 5) (ret := (some .int)) (by decide) rfl ?_
  intro p e s m args below meth c s₁ B hml hv
  obtain ⟨rfl, hB0, hXX, hPo, hKo, hNC⟩ := hv
  have hsz := hB0.1
  subst hsz
  have hx := B.exec
  have hb := B.bytes
  have hr := B.returns
  have hts := atoms_spec (ws := wsL_ofFamily) B.pre
  have hown : s.vm.findClass RL = some m.cls := findClass_of_methodNamed B.named
  have hlocks := B.notSynchronized
  have hA : ∀ q : Nat, s.heap.size ≤ q → hAo a o s.heap.size q := fun q h => Or.inl (Or.inr h)
  have hK := hB0.2.2.1
  have hN := hB0.2.2.2.2
  have hw : sH D a cs (hAo a o s.heap.size) s.heap σ s.heap [] := ⟨hB0.2.1, (sD_self (sz := s.heap.size) hB0.2.2.2.1).weaken (fun _ _ _ h => Or.inl h), va_S.rf⟩
  have hl := lv_entry ([.ref (a 0), .int x0, .int y, .ref o]) (n := 5) (Nat.le_of_ble_eq_true rfl)
  rw [lg_entry_eq]
  generalize (lg_sl ([.ref (a 0), .int x0, .int y, .ref o]) ++ List.replicate (5 - (lg_sl ([.ref (a 0), .int x0, .int y, .ref o])).length) Slot.unset).toArray = ls at hl ⊢
  have hl : lv_has ls 5 [(0, .ref (a 0)), (1, .int x0), (2, .int y), (3, .ref o)] := hl
  refine lv_aload_n hx hb dL_ofFamily_0 rfl (lv_at hl 3 rfl) ?_
  refine lv_iconst (v := 0) hx hb dL_ofFamily_1 (by decide) ?_
  refine lv_aload_n hx hb dL_ofFamily_2 rfl (lv_at hl 0 rfl) ?_
  refine lv_iload_n hx hb dL_ofFamily_3 rfl (lv_at hl 1 rfl) ?_
  refine lv_iload_n hx hb dL_ofFamily_4 rfl (lv_at hl 2 rfl) ?_
  have htab := vx_table (x := yL_ofFamily) B (hts _ (show Cond.codeWith yL_ofFamily cL_ofFamily 5 (some .int) [(0, 10, 13, 13), (0, 10, 17, 15)] ∈ wsL_ofFamily from List.mem_cons_self))
  refine hc_x (As := [.int x0, .int y]) (rest := [.int 0, .ref o]) ⟨hx, hb, hml, hown, hts⟩ (zX3_ofFamily_x1 l hst D a cs _ x0 hp y) (cwV 2 hts gL_ofFamily_X3_ofFamily rfl rfl rfl (by decide +kernel) ⟨Nat.le_of_ble_eq_true rfl, Nat.le_of_ble_eq_true rfl⟩) hK hN hXX hw rfl hl.1 (Nat.le_of_ble_eq_true rfl) dL_ofFamily_5 ⟨Nat.le_of_ble_eq_true rfl, Nat.le_of_ble_eq_true rfl⟩ (fun qE ce H1 locs1 hS hce hcv hcl => ?_)
  refine vx_catch (name := xIO) hown [] ⟨0, 10, 13, 13⟩ [⟨0, 10, 17, 15⟩] htab (fun z hz => nomatch hz) (by decide) (by decide) (hts _ mL_ofFamily_x1_0) (sX_words hXX _ _ hCaIO) hce hcv hcl ?_
  refine lv_astore (lv' := [(4, .ref qE), (0, .ref (a 0)), (1, .int x0), (2, .int y), (3, .ref o)]) hx hb dL_ofFamily_13 hl (by decide) rfl (fun ls hl => ?_)
  refine lv_iconst (v := 1) hx hb dL_ofFamily_15 (by decide) ?_
  exact W.iret hx hb hr (fun t ht hW => ⟨⟨1, (), rfl, rfl, trivial⟩, hS.F ht⟩) hS.2.2 dL_ofFamily_16 hlocks
theorem mL_ofPond_x1_0 : Cond.classLink RL 13 xIO ∈ wsL_ofPond := by decide +kernel
set_option maxHeartbeats 4000000 in
set_option maxRecDepth 100000 in
theorem zL_ofPond_x1 (l : Launch) (hst : l.stackTraces = false) (D : va_G) (a : Nat → Nat) (cs : Nat → ClassId) (σ : sS) (o : Nat) (cJ : ClassId) (fl : Nat → Int64) (ho : ∀ i, i < 34 → a i ≠ o) (x0 : Int32) (hp : x0 < 0 ∨ ¬ x0 < 0 ∧ ¬ x0 < 8) (y : Int32) (sz : Nat) : Met l yL_ofPond wsL_ofPond ({ frames := 8, cells := 1, slots := 6, locals := 127 }) (va_Pc [.ref (a 0), .int x0, .int y, .ref o] (hB D a cs σ o cJ fl sz)) (va_Qi (fun r (_ : Unit) => r = 1) (fun _ _ => True) (hAo a o sz)) 1 6 (hAo a o sz) := by
  refine va_MetW (cc := cL_ofPond) (maxL := 5) (ret := (some .int)) (by decide) rfl ?_
  intro p e s m args below meth c s₁ B hml hv
  obtain ⟨rfl, hB0, hXX, hPo, hKo, hNC⟩ := hv
  have hsz := hB0.1
  subst hsz
  have hx := B.exec
  have hb := B.bytes
  have hr := B.returns
  have hts := atoms_spec (ws := wsL_ofPond) B.pre
  have hown : s.vm.findClass RL = some m.cls := findClass_of_methodNamed B.named
  have hlocks := B.notSynchronized
  have hA : ∀ q : Nat, s.heap.size ≤ q → hAo a o s.heap.size q := fun q h => Or.inl (Or.inr h)
  have hK := hB0.2.2.1
  have hN := hB0.2.2.2.2
  have hw : sH D a cs (hAo a o s.heap.size) s.heap σ s.heap [] := ⟨hB0.2.1, (sD_self (sz := s.heap.size) hB0.2.2.2.1).weaken (fun _ _ _ h => Or.inl h), va_S.rf⟩
  have hl := lv_entry ([.ref (a 0), .int x0, .int y, .ref o]) (n := 5) (Nat.le_of_ble_eq_true rfl)
  rw [lg_entry_eq]
  generalize (lg_sl ([.ref (a 0), .int x0, .int y, .ref o]) ++ List.replicate (5 - (lg_sl ([.ref (a 0), .int x0, .int y, .ref o])).length) Slot.unset).toArray = ls at hl ⊢
  have hl : lv_has ls 5 [(0, .ref (a 0)), (1, .int x0), (2, .int y), (3, .ref o)] := hl
  refine lv_aload_n hx hb dL_ofPond_0 rfl (lv_at hl 3 rfl) ?_
  refine lv_iconst (v := 0) hx hb dL_ofPond_1 (by decide) ?_
  refine lv_aload_n hx hb dL_ofPond_2 rfl (lv_at hl 0 rfl) ?_
  refine lv_iload_n hx hb dL_ofPond_3 rfl (lv_at hl 1 rfl) ?_
  refine lv_iload_n hx hb dL_ofPond_4 rfl (lv_at hl 2 rfl) ?_
  have htab := vx_table (x := yL_ofPond) B (hts _ (show Cond.codeWith yL_ofPond cL_ofPond 5 (some .int) [(0, 10, 13, 13), (0, 10, 17, 15)] ∈ wsL_ofPond from List.mem_cons_self))
  refine hc_x (As := [.int x0, .int y]) (rest := [.int 0, .ref o]) ⟨hx, hb, hml, hown, hts⟩ (zX3_ofPond_x1 l hst D a cs _ x0 hp y) (cwV 2 hts gL_ofPond_X3_ofPond rfl rfl rfl (by decide +kernel) ⟨Nat.le_of_ble_eq_true rfl, Nat.le_of_ble_eq_true rfl⟩) hK hN hXX hw rfl hl.1 (Nat.le_of_ble_eq_true rfl) dL_ofPond_5 ⟨Nat.le_of_ble_eq_true rfl, Nat.le_of_ble_eq_true rfl⟩ (fun qE ce H1 locs1 hS hce hcv hcl => ?_)
  refine vx_catch (name := xIO) hown [] ⟨0, 10, 13, 13⟩ [⟨0, 10, 17, 15⟩] htab (fun z hz => nomatch hz) (by decide) (by decide) (hts _ mL_ofPond_x1_0) (sX_words hXX _ _ hCaIO) hce hcv hcl ?_
  refine lv_astore (lv' := [(4, .ref qE), (0, .ref (a 0)), (1, .int x0), (2, .int y), (3, .ref o)]) hx hb dL_ofPond_13 hl (by decide) rfl (fun ls hl => ?_)
  refine lv_iconst (v := 1) hx hb dL_ofPond_15 (by decide) ?_
  exact W.iret hx hb hr (fun t ht hW => ⟨⟨1, (), rfl, rfl, trivial⟩, hS.F ht⟩) hS.2.2 dL_ofPond_16 hlocks
theorem mL_ofPond_x2_0 : Cond.classLink RL 13 xIO ∈ wsL_ofPond := by decide +kernel
theorem mL_ofPond_x2_1 : Cond.classLink RL 15 xIA ∈ wsL_ofPond := by decide +kernel
set_option maxHeartbeats 4000000 in
set_option maxRecDepth 100000 in
theorem zL_ofPond_x2 (l : Launch) (hst : l.stackTraces = false) (D : va_G) (a : Nat → Nat) (cs : Nat → ClassId) (σ : sS) (o : Nat) (cJ : ClassId) (fl : Nat → Int64) (ho : ∀ i, i < 34 → a i ≠ o) (k : Nat) (hk : k < 8) (y : Int32) (h1 : y < 0) (sz : Nat) : Met l yL_ofPond wsL_ofPond ({ frames := 7, cells := 1, slots := 6, locals := 106 }) (va_Pc [.ref (a 0), .int (nI k), .int y, .ref o] (hB D a cs σ o cJ fl sz)) (va_Qi (fun r (_ : Unit) => r = 2) (fun _ _ => True) (hAo a o sz)) 1 6 (hAo a o sz) := by
  refine va_MetW (cc := cL_ofPond) (maxL := 5) (ret := (some .int)) (by decide) rfl ?_
  intro p e s m args below meth c s₁ B hml hv
  obtain ⟨rfl, hB0, hXX, hPo, hKo, hNC⟩ := hv
  have hsz := hB0.1
  subst hsz
  have hx := B.exec
  have hb := B.bytes
  have hr := B.returns
  have hts := atoms_spec (ws := wsL_ofPond) B.pre
  have hown : s.vm.findClass RL = some m.cls := findClass_of_methodNamed B.named
  have hlocks := B.notSynchronized
  have hA : ∀ q : Nat, s.heap.size ≤ q → hAo a o s.heap.size q := fun q h => Or.inl (Or.inr h)
  have hK := hB0.2.2.1
  have hN := hB0.2.2.2.2
  have hw : sH D a cs (hAo a o s.heap.size) s.heap σ s.heap [] := ⟨hB0.2.1, (sD_self (sz := s.heap.size) hB0.2.2.2.1).weaken (fun _ _ _ h => Or.inl h), va_S.rf⟩
  have hl := lv_entry ([.ref (a 0), .int (nI k), .int y, .ref o]) (n := 5) (Nat.le_of_ble_eq_true rfl)
  rw [lg_entry_eq]
  generalize (lg_sl ([.ref (a 0), .int (nI k), .int y, .ref o]) ++ List.replicate (5 - (lg_sl ([.ref (a 0), .int (nI k), .int y, .ref o])).length) Slot.unset).toArray = ls at hl ⊢
  have hl : lv_has ls 5 [(0, .ref (a 0)), (1, .int (nI k)), (2, .int y), (3, .ref o)] := hl
  refine lv_aload_n hx hb dL_ofPond_0 rfl (lv_at hl 3 rfl) ?_
  refine lv_iconst (v := 0) hx hb dL_ofPond_1 (by decide) ?_
  refine lv_aload_n hx hb dL_ofPond_2 rfl (lv_at hl 0 rfl) ?_
  refine lv_iload_n hx hb dL_ofPond_3 rfl (lv_at hl 1 rfl) ?_
  refine lv_iload_n hx hb dL_ofPond_4 rfl (lv_at hl 2 rfl) ?_
  have htab := vx_table (x := yL_ofPond) B (hts _ (show Cond.codeWith yL_ofPond cL_ofPond 5 (some .int) [(0, 10, 13, 13), (0, 10, 17, 15)] ∈ wsL_ofPond from List.mem_cons_self))
  refine hc_x (As := [.int (nI k), .int y]) (rest := [.int 0, .ref o]) ⟨hx, hb, hml, hown, hts⟩ (zX3_ofPond_x2 l hst D a cs _ k hk y h1) (cwV 2 hts gL_ofPond_X3_ofPond rfl rfl rfl (by decide +kernel) ⟨Nat.le_of_ble_eq_true rfl, Nat.le_of_ble_eq_true rfl⟩) hK hN hXX hw rfl hl.1 (Nat.le_of_ble_eq_true rfl) dL_ofPond_5 ⟨Nat.le_of_ble_eq_true rfl, Nat.le_of_ble_eq_true rfl⟩ (fun qE ce H1 locs1 hS hce hcv hcl => ?_)
  refine vx_catch (name := xIA) hown [⟨0, 10, 13, 13⟩] ⟨0, 10, 17, 15⟩ [] htab (fun z hz => by rw [List.mem_singleton] at hz; subst hz; exact Or.inr ⟨by decide, xIO, (hts _ mL_ofPond_x2_0), hNC.1⟩) (by decide) (by decide) (hts _ mL_ofPond_x2_1) (sX_words hXX _ _ hCaIA) hce hcv hcl ?_
  refine lv_astore (lv' := [(4, .ref qE), (0, .ref (a 0)), (1, .int (nI k)), (2, .int y), (3, .ref o)]) hx hb dL_ofPond_17 hl (by decide) rfl (fun ls hl => ?_)
  refine lv_iconst (v := 2) hx hb dL_ofPond_19 (by decide) ?_
  exact W.iret hx hb hr (fun t ht hW => ⟨⟨2, (), rfl, rfl, trivial⟩, hS.F ht⟩) hS.2.2 dL_ofPond_20 hlocks
theorem mL_ofPond_x3_0 : Cond.classLink RL 13 xIO ∈ wsL_ofPond := by decide +kernel
theorem mL_ofPond_x3_1 : Cond.classLink RL 15 xIA ∈ wsL_ofPond := by decide +kernel
set_option maxHeartbeats 4000000 in
set_option maxRecDepth 100000 in
theorem zL_ofPond_x3 (l : Launch) (hst : l.stackTraces = false) (D : va_G) (a : Nat → Nat) (cs : Nat → ClassId) (σ : sS) (o : Nat) (cJ : ClassId) (fl : Nat → Int64) (ho : ∀ i, i < 34 → a i ≠ o) (k : Nat) (hk : k < 8) (y : Int32) (h1 : ¬ y < 0) (h2 : ¬ y ≤ 10) (sz : Nat) : Met l yL_ofPond wsL_ofPond ({ frames := 7, cells := 1, slots := 6, locals := 106 }) (va_Pc [.ref (a 0), .int (nI k), .int y, .ref o] (hB D a cs σ o cJ fl sz)) (va_Qi (fun r (_ : Unit) => r = 2) (fun _ _ => True) (hAo a o sz)) 1 6 (hAo a o sz) := by
  refine va_MetW (cc := cL_ofPond) (maxL := 5) (ret := (some .int)) (by decide) rfl ?_
  intro p e s m args below meth c s₁ B hml hv
  obtain ⟨rfl, hB0, hXX, hPo, hKo, hNC⟩ := hv
  have hsz := hB0.1
  subst hsz
  have hx := B.exec
  have hb := B.bytes
  have hr := B.returns
  have hts := atoms_spec (ws := wsL_ofPond) B.pre
  have hown : s.vm.findClass RL = some m.cls := findClass_of_methodNamed B.named
  have hlocks := B.notSynchronized
  have hA : ∀ q : Nat, s.heap.size ≤ q → hAo a o s.heap.size q := fun q h => Or.inl (Or.inr h)
  have hK := hB0.2.2.1
  have hN := hB0.2.2.2.2
  have hw : sH D a cs (hAo a o s.heap.size) s.heap σ s.heap [] := ⟨hB0.2.1, (sD_self (sz := s.heap.size) hB0.2.2.2.1).weaken (fun _ _ _ h => Or.inl h), va_S.rf⟩
  have hl := lv_entry ([.ref (a 0), .int (nI k), .int y, .ref o]) (n := 5) (Nat.le_of_ble_eq_true rfl)
  rw [lg_entry_eq]
  generalize (lg_sl ([.ref (a 0), .int (nI k), .int y, .ref o]) ++ List.replicate (5 - (lg_sl ([.ref (a 0), .int (nI k), .int y, .ref o])).length) Slot.unset).toArray = ls at hl ⊢
  have hl : lv_has ls 5 [(0, .ref (a 0)), (1, .int (nI k)), (2, .int y), (3, .ref o)] := hl
  refine lv_aload_n hx hb dL_ofPond_0 rfl (lv_at hl 3 rfl) ?_
  refine lv_iconst (v := 0) hx hb dL_ofPond_1 (by decide) ?_
  refine lv_aload_n hx hb dL_ofPond_2 rfl (lv_at hl 0 rfl) ?_
  refine lv_iload_n hx hb dL_ofPond_3 rfl (lv_at hl 1 rfl) ?_
  refine lv_iload_n hx hb dL_ofPond_4 rfl (lv_at hl 2 rfl) ?_
  have htab := vx_table (x := yL_ofPond) B (hts _ (show Cond.codeWith yL_ofPond cL_ofPond 5 (some .int) [(0, 10, 13, 13), (0, 10, 17, 15)] ∈ wsL_ofPond from List.mem_cons_self))
  refine hc_x (As := [.int (nI k), .int y]) (rest := [.int 0, .ref o]) ⟨hx, hb, hml, hown, hts⟩ (zX3_ofPond_x3 l hst D a cs _ k hk y h1 h2) (cwV 2 hts gL_ofPond_X3_ofPond rfl rfl rfl (by decide +kernel) ⟨Nat.le_of_ble_eq_true rfl, Nat.le_of_ble_eq_true rfl⟩) hK hN hXX hw rfl hl.1 (Nat.le_of_ble_eq_true rfl) dL_ofPond_5 ⟨Nat.le_of_ble_eq_true rfl, Nat.le_of_ble_eq_true rfl⟩ (fun qE ce H1 locs1 hS hce hcv hcl => ?_)
  refine vx_catch (name := xIA) hown [⟨0, 10, 13, 13⟩] ⟨0, 10, 17, 15⟩ [] htab (fun z hz => by rw [List.mem_singleton] at hz; subst hz; exact Or.inr ⟨by decide, xIO, (hts _ mL_ofPond_x3_0), hNC.1⟩) (by decide) (by decide) (hts _ mL_ofPond_x3_1) (sX_words hXX _ _ hCaIA) hce hcv hcl ?_
  refine lv_astore (lv' := [(4, .ref qE), (0, .ref (a 0)), (1, .int (nI k)), (2, .int y), (3, .ref o)]) hx hb dL_ofPond_17 hl (by decide) rfl (fun ls hl => ?_)
  refine lv_iconst (v := 2) hx hb dL_ofPond_19 (by decide) ?_
  exact W.iret hx hb hr (fun t ht hW => ⟨⟨2, (), rfl, rfl, trivial⟩, hS.F ht⟩) hS.2.2 dL_ofPond_20 hlocks
theorem mL_pass_x1_0 : Cond.classLink RL 15 xIA ∈ wsL_pass := by decide +kernel
set_option maxHeartbeats 4000000 in
set_option maxRecDepth 100000 in
theorem zL_pass_x1 (l : Launch) (hst : l.stackTraces = false) (D : va_G) (a : Nat → Nat) (cs : Nat → ClassId) (σ : sS) (o : Nat) (cJ : ClassId) (fl : Nat → Int64) (ho : ∀ i, i < 34 → a i ≠ o) (n x y z : Int32) (h1 : n < 1) (sz : Nat) : Met l yL_pass wsL_pass ({ frames := 7, cells := 1, slots := 6, locals := 110 }) (va_Pc [.ref (a 0), .int n, .int x, .int y, .int z, .ref o] (hB D a cs σ o cJ fl sz)) (va_Qi (fun r (_ : Unit) => r = 1) (fun _ _ => True) (hAo a o sz)) 1 6 (hAo a o sz) := by
  refine va_MetW (cc := cL_pass) (maxL := 7) (ret := (some .int)) (by decide) rfl ?_
  intro p e s m args below meth c s₁ B hml hv
  obtain ⟨rfl, hB0, hXX, hPo, hKo, hNC⟩ := hv
  have hsz := hB0.1
  subst hsz
  have hx := B.exec
  have hb := B.bytes
  have hr := B.returns
  have hts := atoms_spec (ws := wsL_pass) B.pre
  have hown : s.vm.findClass RL = some m.cls := findClass_of_methodNamed B.named
  have hlocks := B.notSynchronized
  have hA : ∀ q : Nat, s.heap.size ≤ q → hAo a o s.heap.size q := fun q h => Or.inl (Or.inr h)
  have hK := hB0.2.2.1
  have hN := hB0.2.2.2.2
  have hw : sH D a cs (hAo a o s.heap.size) s.heap σ s.heap [] := ⟨hB0.2.1, (sD_self (sz := s.heap.size) hB0.2.2.2.1).weaken (fun _ _ _ h => Or.inl h), va_S.rf⟩
  have hl := lv_entry ([.ref (a 0), .int n, .int x, .int y, .int z, .ref o]) (n := 7) (Nat.le_of_ble_eq_true rfl)
  rw [lg_entry_eq]
  generalize (lg_sl ([.ref (a 0), .int n, .int x, .int y, .int z, .ref o]) ++ List.replicate (7 - (lg_sl ([.ref (a 0), .int n, .int x, .int y, .int z, .ref o])).length) Slot.unset).toArray = ls at hl ⊢
  have hl : lv_has ls 7 [(0, .ref (a 0)), (1, .int n), (2, .int x), (3, .int y), (4, .int z), (5, .ref o)] := hl
  refine lv_aload hx hb dL_pass_0 (lv_at hl 5 rfl) ?_
  refine lv_iconst (v := 0) hx hb dL_pass_2 (by decide) ?_
  refine lv_aload_n hx hb dL_pass_3 rfl (lv_at hl 0 rfl) ?_
  refine lv_iload_n hx hb dL_pass_4 rfl (lv_at hl 1 rfl) ?_
  refine lv_iload_n hx hb dL_pass_5 rfl (lv_at hl 2 rfl) ?_
  refine lv_iload_n hx hb dL_pass_6 rfl (lv_at hl 3 rfl) ?_
  refine lv_iload hx hb dL_pass_7 (lv_at hl 4 rfl) ?_
  have htab := vx_table (x := yL_pass) B (hts _ (show Cond.codeWith yL_pass cL_pass 7 (some .int) [(0, 14, 17, 15), (0, 14, 21, 17)] ∈ wsL_pass from List.mem_cons_self))
  refine hc_x (As := [.int n, .int x, .int y, .int z]) (rest := [.int 0, .ref o]) ⟨hx, hb, hml, hown, hts⟩ (zX3_pass_x1 l hst D a cs _ n x y z h1) (cwV 4 hts gL_pass_X3_pass rfl rfl rfl (by decide +kernel) ⟨Nat.le_of_ble_eq_true rfl, Nat.le_of_ble_eq_true rfl⟩) hK hN hXX hw rfl hl.1 (Nat.le_of_ble_eq_true rfl) dL_pass_9 ⟨Nat.le_of_ble_eq_true rfl, Nat.le_of_ble_eq_true rfl⟩ (fun qE ce H1 locs1 hS hce hcv hcl => ?_)
  refine vx_catch (name := xIA) hown [] ⟨0, 14, 17, 15⟩ [⟨0, 14, 21, 17⟩] htab (fun z hz => nomatch hz) (by decide) (by decide) (hts _ mL_pass_x1_0) (sX_words hXX _ _ hCaIA) hce hcv hcl ?_
  refine lv_astore (lv' := [(6, .ref qE), (0, .ref (a 0)), (1, .int n), (2, .int x), (3, .int y), (4, .int z), (5, .ref o)]) hx hb dL_pass_17 hl (by decide) rfl (fun ls hl => ?_)
  refine lv_iconst (v := 1) hx hb dL_pass_19 (by decide) ?_
  exact W.iret hx hb hr (fun t ht hW => ⟨⟨1, (), rfl, rfl, trivial⟩, hS.F ht⟩) hS.2.2 dL_pass_20 hlocks
theorem mL_pass_x2_0 : Cond.classLink RL 15 xIA ∈ wsL_pass := by decide +kernel
set_option maxHeartbeats 4000000 in
set_option maxRecDepth 100000 in
theorem zL_pass_x2 (l : Launch) (hst : l.stackTraces = false) (D : va_G) (a : Nat → Nat) (cs : Nat → ClassId) (σ : sS) (o : Nat) (cJ : ClassId) (fl : Nat → Int64) (ho : ∀ i, i < 34 → a i ≠ o) (n x y z : Int32) (h1 : ¬ n < 1) (h2 : ¬ n ≤ 30) (sz : Nat) : Met l yL_pass wsL_pass ({ frames := 7, cells := 1, slots := 6, locals := 110 }) (va_Pc [.ref (a 0), .int n, .int x, .int y, .int z, .ref o] (hB D a cs σ o cJ fl sz)) (va_Qi (fun r (_ : Unit) => r = 1) (fun _ _ => True) (hAo a o sz)) 1 6 (hAo a o sz) := by
  refine va_MetW (cc := cL_pass) (maxL := 7) (ret := (some .int)) (by decide) rfl ?_
  intro p e s m args below meth c s₁ B hml hv
  obtain ⟨rfl, hB0, hXX, hPo, hKo, hNC⟩ := hv
  have hsz := hB0.1
  subst hsz
  have hx := B.exec
  have hb := B.bytes
  have hr := B.returns
  have hts := atoms_spec (ws := wsL_pass) B.pre
  have hown : s.vm.findClass RL = some m.cls := findClass_of_methodNamed B.named
  have hlocks := B.notSynchronized
  have hA : ∀ q : Nat, s.heap.size ≤ q → hAo a o s.heap.size q := fun q h => Or.inl (Or.inr h)
  have hK := hB0.2.2.1
  have hN := hB0.2.2.2.2
  have hw : sH D a cs (hAo a o s.heap.size) s.heap σ s.heap [] := ⟨hB0.2.1, (sD_self (sz := s.heap.size) hB0.2.2.2.1).weaken (fun _ _ _ h => Or.inl h), va_S.rf⟩
  have hl := lv_entry ([.ref (a 0), .int n, .int x, .int y, .int z, .ref o]) (n := 7) (Nat.le_of_ble_eq_true rfl)
  rw [lg_entry_eq]
  generalize (lg_sl ([.ref (a 0), .int n, .int x, .int y, .int z, .ref o]) ++ List.replicate (7 - (lg_sl ([.ref (a 0), .int n, .int x, .int y, .int z, .ref o])).length) Slot.unset).toArray = ls at hl ⊢
  have hl : lv_has ls 7 [(0, .ref (a 0)), (1, .int n), (2, .int x), (3, .int y), (4, .int z), (5, .ref o)] := hl
  refine lv_aload hx hb dL_pass_0 (lv_at hl 5 rfl) ?_
  refine lv_iconst (v := 0) hx hb dL_pass_2 (by decide) ?_
  refine lv_aload_n hx hb dL_pass_3 rfl (lv_at hl 0 rfl) ?_
  refine lv_iload_n hx hb dL_pass_4 rfl (lv_at hl 1 rfl) ?_
  refine lv_iload_n hx hb dL_pass_5 rfl (lv_at hl 2 rfl) ?_
  refine lv_iload_n hx hb dL_pass_6 rfl (lv_at hl 3 rfl) ?_
  refine lv_iload hx hb dL_pass_7 (lv_at hl 4 rfl) ?_
  have htab := vx_table (x := yL_pass) B (hts _ (show Cond.codeWith yL_pass cL_pass 7 (some .int) [(0, 14, 17, 15), (0, 14, 21, 17)] ∈ wsL_pass from List.mem_cons_self))
  refine hc_x (As := [.int n, .int x, .int y, .int z]) (rest := [.int 0, .ref o]) ⟨hx, hb, hml, hown, hts⟩ (zX3_pass_x2 l hst D a cs _ n x y z h1 h2) (cwV 4 hts gL_pass_X3_pass rfl rfl rfl (by decide +kernel) ⟨Nat.le_of_ble_eq_true rfl, Nat.le_of_ble_eq_true rfl⟩) hK hN hXX hw rfl hl.1 (Nat.le_of_ble_eq_true rfl) dL_pass_9 ⟨Nat.le_of_ble_eq_true rfl, Nat.le_of_ble_eq_true rfl⟩ (fun qE ce H1 locs1 hS hce hcv hcl => ?_)
  refine vx_catch (name := xIA) hown [] ⟨0, 14, 17, 15⟩ [⟨0, 14, 21, 17⟩] htab (fun z hz => nomatch hz) (by decide) (by decide) (hts _ mL_pass_x2_0) (sX_words hXX _ _ hCaIA) hce hcv hcl ?_
  refine lv_astore (lv' := [(6, .ref qE), (0, .ref (a 0)), (1, .int n), (2, .int x), (3, .int y), (4, .int z), (5, .ref o)]) hx hb dL_pass_17 hl (by decide) rfl (fun ls hl => ?_)
  refine lv_iconst (v := 1) hx hb dL_pass_19 (by decide) ?_
  exact W.iret hx hb hr (fun t ht hW => ⟨⟨1, (), rfl, rfl, trivial⟩, hS.F ht⟩) hS.2.2 dL_pass_20 hlocks
theorem mL_pass_x3_0 : Cond.classLink RL 15 xIA ∈ wsL_pass := by decide +kernel
set_option maxHeartbeats 4000000 in
set_option maxRecDepth 100000 in
theorem zL_pass_x3 (l : Launch) (hst : l.stackTraces = false) (D : va_G) (a : Nat → Nat) (cs : Nat → ClassId) (σ : sS) (o : Nat) (cJ : ClassId) (fl : Nat → Int64) (ho : ∀ i, i < 34 → a i ≠ o) (n z : Int32) (h1 : ¬ n < 1) (h2 : n ≤ 30) (x y : Int32) (hp : x < 0 ∨ ¬ x < 0 ∧ ¬ x ≤ 9 ∨ ¬ x < 0 ∧ x ≤ 9 ∧ y < 0 ∨ ¬ x < 0 ∧ x ≤ 9 ∧ ¬ y < 0 ∧ ¬ y ≤ 9)  (sz : Nat) : Met l yL_pass wsL_pass ({ frames := 8, cells := 1, slots := 6, locals := 132 }) (va_Pc [.ref (a 0), .int n, .int x, .int y, .int z, .ref o] (hB D a cs σ o cJ fl sz)) (va_Qi (fun r (_ : Unit) => r = 1) (fun _ _ => True) (hAo a o sz)) 1 6 (hAo a o sz) := by
  refine va_MetW (cc := cL_pass) (maxL := 7) (ret := (some .int)) (by decide) rfl ?_
  intro p e s m args below meth c s₁ B hml hv
  obtain ⟨rfl, hB0, hXX, hPo, hKo, hNC⟩ := hv
  have hsz := hB0.1
  subst hsz
  have hx := B.exec
  have hb := B.bytes
  have hr := B.returns
  have hts := atoms_spec (ws := wsL_pass) B.pre
  have hown : s.vm.findClass RL = some m.cls := findClass_of_methodNamed B.named
  have hlocks := B.notSynchronized
  have hA : ∀ q : Nat, s.heap.size ≤ q → hAo a o s.heap.size q := fun q h => Or.inl (Or.inr h)
  have hK := hB0.2.2.1
  have hN := hB0.2.2.2.2
  have hw : sH D a cs (hAo a o s.heap.size) s.heap σ s.heap [] := ⟨hB0.2.1, (sD_self (sz := s.heap.size) hB0.2.2.2.1).weaken (fun _ _ _ h => Or.inl h), va_S.rf⟩
  have hl := lv_entry ([.ref (a 0), .int n, .int x, .int y, .int z, .ref o]) (n := 7) (Nat.le_of_ble_eq_true rfl)
  rw [lg_entry_eq]
  generalize (lg_sl ([.ref (a 0), .int n, .int x, .int y, .int z, .ref o]) ++ List.replicate (7 - (lg_sl ([.ref (a 0), .int n, .int x, .int y, .int z, .ref o])).length) Slot.unset).toArray = ls at hl ⊢
  have hl : lv_has ls 7 [(0, .ref (a 0)), (1, .int n), (2, .int x), (3, .int y), (4, .int z), (5, .ref o)] := hl
  refine lv_aload hx hb dL_pass_0 (lv_at hl 5 rfl) ?_
  refine lv_iconst (v := 0) hx hb dL_pass_2 (by decide) ?_
  refine lv_aload_n hx hb dL_pass_3 rfl (lv_at hl 0 rfl) ?_
  refine lv_iload_n hx hb dL_pass_4 rfl (lv_at hl 1 rfl) ?_
  refine lv_iload_n hx hb dL_pass_5 rfl (lv_at hl 2 rfl) ?_
  refine lv_iload_n hx hb dL_pass_6 rfl (lv_at hl 3 rfl) ?_
  refine lv_iload hx hb dL_pass_7 (lv_at hl 4 rfl) ?_
  have htab := vx_table (x := yL_pass) B (hts _ (show Cond.codeWith yL_pass cL_pass 7 (some .int) [(0, 14, 17, 15), (0, 14, 21, 17)] ∈ wsL_pass from List.mem_cons_self))
  refine hc_x (As := [.int n, .int x, .int y, .int z]) (rest := [.int 0, .ref o]) ⟨hx, hb, hml, hown, hts⟩ (zX3_pass_x3 l hst D a cs _ n z h1 h2 x y hp) (cwV 4 hts gL_pass_X3_pass rfl rfl rfl (by decide +kernel) ⟨Nat.le_of_ble_eq_true rfl, Nat.le_of_ble_eq_true rfl⟩) hK hN hXX hw rfl hl.1 (Nat.le_of_ble_eq_true rfl) dL_pass_9 ⟨Nat.le_of_ble_eq_true rfl, Nat.le_of_ble_eq_true rfl⟩ (fun qE ce H1 locs1 hS hce hcv hcl => ?_)
  refine vx_catch (name := xIA) hown [] ⟨0, 14, 17, 15⟩ [⟨0, 14, 21, 17⟩] htab (fun z hz => nomatch hz) (by decide) (by decide) (hts _ mL_pass_x3_0) (sX_words hXX _ _ hCaIA) hce hcv hcl ?_
  refine lv_astore (lv' := [(6, .ref qE), (0, .ref (a 0)), (1, .int n), (2, .int x), (3, .int y), (4, .int z), (5, .ref o)]) hx hb dL_pass_17 hl (by decide) rfl (fun ls hl => ?_)
  refine lv_iconst (v := 1) hx hb dL_pass_19 (by decide) ?_
  exact W.iret hx hb hr (fun t ht hW => ⟨⟨1, (), rfl, rfl, trivial⟩, hS.F ht⟩) hS.2.2 dL_pass_20 hlocks
theorem mL_pass_x4_0 : Cond.classLink RL 15 xIA ∈ wsL_pass := by decide +kernel
set_option maxHeartbeats 4000000 in
set_option maxRecDepth 100000 in
theorem zL_pass_x4 (l : Launch) (hst : l.stackTraces = false) (D : va_G) (a : Nat → Nat) (cs : Nat → ClassId) (σ : sS) (o : Nat) (cJ : ClassId) (fl : Nat → Int64) (ho : ∀ i, i < 34 → a i ≠ o) (n x y z : Int32) (h1 : ¬ n < 1) (h2 : n ≤ 30) (hx0 : ¬ x < 0) (hx9 : x ≤ 9) (hy0 : ¬ y < 0) (hy9 : y ≤ 9) (h3 : z < 0) (sz : Nat) : Met l yL_pass wsL_pass ({ frames := 7, cells := 1, slots := 6, locals := 110 }) (va_Pc [.ref (a 0), .int n, .int x, .int y, .int z, .ref o] (hB D a cs σ o cJ fl sz)) (va_Qi (fun r (_ : Unit) => r = 1) (fun _ _ => True) (hAo a o sz)) 1 6 (hAo a o sz) := by
  refine va_MetW (cc := cL_pass) (maxL := 7) (ret := (some .int)) (by decide) rfl ?_
  intro p e s m args below meth c s₁ B hml hv
  obtain ⟨rfl, hB0, hXX, hPo, hKo, hNC⟩ := hv
  have hsz := hB0.1
  subst hsz
  have hx := B.exec
  have hb := B.bytes
  have hr := B.returns
  have hts := atoms_spec (ws := wsL_pass) B.pre
  have hown : s.vm.findClass RL = some m.cls := findClass_of_methodNamed B.named
  have hlocks := B.notSynchronized
  have hA : ∀ q : Nat, s.heap.size ≤ q → hAo a o s.heap.size q := fun q h => Or.inl (Or.inr h)
  have hK := hB0.2.2.1
  have hN := hB0.2.2.2.2
  have hw : sH D a cs (hAo a o s.heap.size) s.heap σ s.heap [] := ⟨hB0.2.1, (sD_self (sz := s.heap.size) hB0.2.2.2.1).weaken (fun _ _ _ h => Or.inl h), va_S.rf⟩
  have hl := lv_entry ([.ref (a 0), .int n, .int x, .int y, .int z, .ref o]) (n := 7) (Nat.le_of_ble_eq_true rfl)
  rw [lg_entry_eq]
  generalize (lg_sl ([.ref (a 0), .int n, .int x, .int y, .int z, .ref o]) ++ List.replicate (7 - (lg_sl ([.ref (a 0), .int n, .int x, .int y, .int z, .ref o])).length) Slot.unset).toArray = ls at hl ⊢
  have hl : lv_has ls 7 [(0, .ref (a 0)), (1, .int n), (2, .int x), (3, .int y), (4, .int z), (5, .ref o)] := hl
  refine lv_aload hx hb dL_pass_0 (lv_at hl 5 rfl) ?_
  refine lv_iconst (v := 0) hx hb dL_pass_2 (by decide) ?_
  refine lv_aload_n hx hb dL_pass_3 rfl (lv_at hl 0 rfl) ?_
  refine lv_iload_n hx hb dL_pass_4 rfl (lv_at hl 1 rfl) ?_
  refine lv_iload_n hx hb dL_pass_5 rfl (lv_at hl 2 rfl) ?_
  refine lv_iload_n hx hb dL_pass_6 rfl (lv_at hl 3 rfl) ?_
  refine lv_iload hx hb dL_pass_7 (lv_at hl 4 rfl) ?_
  have htab := vx_table (x := yL_pass) B (hts _ (show Cond.codeWith yL_pass cL_pass 7 (some .int) [(0, 14, 17, 15), (0, 14, 21, 17)] ∈ wsL_pass from List.mem_cons_self))
  refine hc_x (As := [.int n, .int x, .int y, .int z]) (rest := [.int 0, .ref o]) ⟨hx, hb, hml, hown, hts⟩ (zX3_pass_x4 l hst D a cs _ n x y z h1 h2 hx0 hx9 hy0 hy9 h3) (cwV 4 hts gL_pass_X3_pass rfl rfl rfl (by decide +kernel) ⟨Nat.le_of_ble_eq_true rfl, Nat.le_of_ble_eq_true rfl⟩) hK hN hXX hw rfl hl.1 (Nat.le_of_ble_eq_true rfl) dL_pass_9 ⟨Nat.le_of_ble_eq_true rfl, Nat.le_of_ble_eq_true rfl⟩ (fun qE ce H1 locs1 hS hce hcv hcl => ?_)
  refine vx_catch (name := xIA) hown [] ⟨0, 14, 17, 15⟩ [⟨0, 14, 21, 17⟩] htab (fun z hz => nomatch hz) (by decide) (by decide) (hts _ mL_pass_x4_0) (sX_words hXX _ _ hCaIA) hce hcv hcl ?_
  refine lv_astore (lv' := [(6, .ref qE), (0, .ref (a 0)), (1, .int n), (2, .int x), (3, .int y), (4, .int z), (5, .ref o)]) hx hb dL_pass_17 hl (by decide) rfl (fun ls hl => ?_)
  refine lv_iconst (v := 1) hx hb dL_pass_19 (by decide) ?_
  exact W.iret hx hb hr (fun t ht hW => ⟨⟨1, (), rfl, rfl, trivial⟩, hS.F ht⟩) hS.2.2 dL_pass_20 hlocks
theorem mL_pass_x5_0 : Cond.classLink RL 15 xIA ∈ wsL_pass := by decide +kernel
set_option maxHeartbeats 4000000 in
set_option maxRecDepth 100000 in
theorem zL_pass_x5 (l : Launch) (hst : l.stackTraces = false) (D : va_G) (a : Nat → Nat) (cs : Nat → ClassId) (σ : sS) (o : Nat) (cJ : ClassId) (fl : Nat → Int64) (ho : ∀ i, i < 34 → a i ≠ o) (n x y z : Int32) (h1 : ¬ n < 1) (h2 : n ≤ 30) (hx0 : ¬ x < 0) (hx9 : x ≤ 9) (hy0 : ¬ y < 0) (hy9 : y ≤ 9) (h3 : ¬ z < 0) (h4 : ¬ z ≤ 40) (sz : Nat) : Met l yL_pass wsL_pass ({ frames := 7, cells := 1, slots := 6, locals := 110 }) (va_Pc [.ref (a 0), .int n, .int x, .int y, .int z, .ref o] (hB D a cs σ o cJ fl sz)) (va_Qi (fun r (_ : Unit) => r = 1) (fun _ _ => True) (hAo a o sz)) 1 6 (hAo a o sz) := by
  refine va_MetW (cc := cL_pass) (maxL := 7) (ret := (some .int)) (by decide) rfl ?_
  intro p e s m args below meth c s₁ B hml hv
  obtain ⟨rfl, hB0, hXX, hPo, hKo, hNC⟩ := hv
  have hsz := hB0.1
  subst hsz
  have hx := B.exec
  have hb := B.bytes
  have hr := B.returns
  have hts := atoms_spec (ws := wsL_pass) B.pre
  have hown : s.vm.findClass RL = some m.cls := findClass_of_methodNamed B.named
  have hlocks := B.notSynchronized
  have hA : ∀ q : Nat, s.heap.size ≤ q → hAo a o s.heap.size q := fun q h => Or.inl (Or.inr h)
  have hK := hB0.2.2.1
  have hN := hB0.2.2.2.2
  have hw : sH D a cs (hAo a o s.heap.size) s.heap σ s.heap [] := ⟨hB0.2.1, (sD_self (sz := s.heap.size) hB0.2.2.2.1).weaken (fun _ _ _ h => Or.inl h), va_S.rf⟩
  have hl := lv_entry ([.ref (a 0), .int n, .int x, .int y, .int z, .ref o]) (n := 7) (Nat.le_of_ble_eq_true rfl)
  rw [lg_entry_eq]
  generalize (lg_sl ([.ref (a 0), .int n, .int x, .int y, .int z, .ref o]) ++ List.replicate (7 - (lg_sl ([.ref (a 0), .int n, .int x, .int y, .int z, .ref o])).length) Slot.unset).toArray = ls at hl ⊢
  have hl : lv_has ls 7 [(0, .ref (a 0)), (1, .int n), (2, .int x), (3, .int y), (4, .int z), (5, .ref o)] := hl
  refine lv_aload hx hb dL_pass_0 (lv_at hl 5 rfl) ?_
  refine lv_iconst (v := 0) hx hb dL_pass_2 (by decide) ?_
  refine lv_aload_n hx hb dL_pass_3 rfl (lv_at hl 0 rfl) ?_
  refine lv_iload_n hx hb dL_pass_4 rfl (lv_at hl 1 rfl) ?_
  refine lv_iload_n hx hb dL_pass_5 rfl (lv_at hl 2 rfl) ?_
  refine lv_iload_n hx hb dL_pass_6 rfl (lv_at hl 3 rfl) ?_
  refine lv_iload hx hb dL_pass_7 (lv_at hl 4 rfl) ?_
  have htab := vx_table (x := yL_pass) B (hts _ (show Cond.codeWith yL_pass cL_pass 7 (some .int) [(0, 14, 17, 15), (0, 14, 21, 17)] ∈ wsL_pass from List.mem_cons_self))
  refine hc_x (As := [.int n, .int x, .int y, .int z]) (rest := [.int 0, .ref o]) ⟨hx, hb, hml, hown, hts⟩ (zX3_pass_x5 l hst D a cs _ n x y z h1 h2 hx0 hx9 hy0 hy9 h3 h4) (cwV 4 hts gL_pass_X3_pass rfl rfl rfl (by decide +kernel) ⟨Nat.le_of_ble_eq_true rfl, Nat.le_of_ble_eq_true rfl⟩) hK hN hXX hw rfl hl.1 (Nat.le_of_ble_eq_true rfl) dL_pass_9 ⟨Nat.le_of_ble_eq_true rfl, Nat.le_of_ble_eq_true rfl⟩ (fun qE ce H1 locs1 hS hce hcv hcl => ?_)
  refine vx_catch (name := xIA) hown [] ⟨0, 14, 17, 15⟩ [⟨0, 14, 21, 17⟩] htab (fun z hz => nomatch hz) (by decide) (by decide) (hts _ mL_pass_x5_0) (sX_words hXX _ _ hCaIA) hce hcv hcl ?_
  refine lv_astore (lv' := [(6, .ref qE), (0, .ref (a 0)), (1, .int n), (2, .int x), (3, .int y), (4, .int z), (5, .ref o)]) hx hb dL_pass_17 hl (by decide) rfl (fun ls hl => ?_)
  refine lv_iconst (v := 1) hx hb dL_pass_19 (by decide) ?_
  exact W.iret hx hb hr (fun t ht hW => ⟨⟨1, (), rfl, rfl, trivial⟩, hS.F ht⟩) hS.2.2 dL_pass_20 hlocks
theorem mL_pump_x1_0 : Cond.classLink RL 13 xIO ∈ wsL_pump := by decide +kernel
set_option maxHeartbeats 4000000 in
set_option maxRecDepth 100000 in
theorem zL_pump_x1 (l : Launch) (hst : l.stackTraces = false) (D : va_G) (a : Nat → Nat) (cs : Nat → ClassId) (σ : sS) (o : Nat) (cJ : ClassId) (fl : Nat → Int64) (ho : ∀ i, i < 34 → a i ≠ o) (x0 : Int32) (hp : x0 < 0 ∨ ¬ x0 < 0 ∧ ¬ x0 < 8) (y z : Int32) (sz : Nat) : Met l yL_pump wsL_pump ({ frames := 8, cells := 1, slots := 6, locals := 128 }) (va_Pc [.ref (a 0), .int x0, .int y, .int z, .ref o] (hB D a cs σ o cJ fl sz)) (va_Qi (fun r (_ : Unit) => r = 1) (fun _ _ => True) (hAo a o sz)) 1 6 (hAo a o sz) := by
  refine va_MetW (cc := cL_pump) (maxL := 6) (ret := (some .int)) (by decide) rfl ?_
  intro p e s m args below meth c s₁ B hml hv
  obtain ⟨rfl, hB0, hXX, hPo, hKo, hNC⟩ := hv
  have hsz := hB0.1
  subst hsz
  have hx := B.exec
  have hb := B.bytes
  have hr := B.returns
  have hts := atoms_spec (ws := wsL_pump) B.pre
  have hown : s.vm.findClass RL = some m.cls := findClass_of_methodNamed B.named
  have hlocks := B.notSynchronized
  have hA : ∀ q : Nat, s.heap.size ≤ q → hAo a o s.heap.size q := fun q h => Or.inl (Or.inr h)
  have hK := hB0.2.2.1
  have hN := hB0.2.2.2.2
  have hw : sH D a cs (hAo a o s.heap.size) s.heap σ s.heap [] := ⟨hB0.2.1, (sD_self (sz := s.heap.size) hB0.2.2.2.1).weaken (fun _ _ _ h => Or.inl h), va_S.rf⟩
  have hl := lv_entry ([.ref (a 0), .int x0, .int y, .int z, .ref o]) (n := 6) (Nat.le_of_ble_eq_true rfl)
  rw [lg_entry_eq]
  generalize (lg_sl ([.ref (a 0), .int x0, .int y, .int z, .ref o]) ++ List.replicate (6 - (lg_sl ([.ref (a 0), .int x0, .int y, .int z, .ref o])).length) Slot.unset).toArray = ls at hl ⊢
  have hl : lv_has ls 6 [(0, .ref (a 0)), (1, .int x0), (2, .int y), (3, .int z), (4, .ref o)] := hl
  refine lv_aload hx hb dL_pump_0 (lv_at hl 4 rfl) ?_
  refine lv_iconst (v := 0) hx hb dL_pump_2 (by decide) ?_
  refine lv_aload_n hx hb dL_pump_3 rfl (lv_at hl 0 rfl) ?_
  refine lv_iload_n hx hb dL_pump_4 rfl (lv_at hl 1 rfl) ?_
  refine lv_iload_n hx hb dL_pump_5 rfl (lv_at hl 2 rfl) ?_
  refine lv_iload_n hx hb dL_pump_6 rfl (lv_at hl 3 rfl) ?_
  have htab := vx_table (x := yL_pump) B (hts _ (show Cond.codeWith yL_pump cL_pump 6 (some .int) [(0, 12, 15, 13), (0, 12, 19, 15), (0, 12, 23, 17)] ∈ wsL_pump from List.mem_cons_self))
  refine hc_x (As := [.int x0, .int y, .int z]) (rest := [.int 0, .ref o]) ⟨hx, hb, hml, hown, hts⟩ (zX3_pump_x1 l hst D a cs _ x0 hp y z) (cwV 3 hts gL_pump_X3_pump rfl rfl rfl (by decide +kernel) ⟨Nat.le_of_ble_eq_true rfl, Nat.le_of_ble_eq_true rfl⟩) hK hN hXX hw rfl hl.1 (Nat.le_of_ble_eq_true rfl) dL_pump_7 ⟨Nat.le_of_ble_eq_true rfl, Nat.le_of_ble_eq_true rfl⟩ (fun qE ce H1 locs1 hS hce hcv hcl => ?_)
  refine vx_catch (name := xIO) hown [] ⟨0, 12, 15, 13⟩ [⟨0, 12, 19, 15⟩, ⟨0, 12, 23, 17⟩] htab (fun z hz => nomatch hz) (by decide) (by decide) (hts _ mL_pump_x1_0) (sX_words hXX _ _ hCaIO) hce hcv hcl ?_
  refine lv_astore (lv' := [(5, .ref qE), (0, .ref (a 0)), (1, .int x0), (2, .int y), (3, .int z), (4, .ref o)]) hx hb dL_pump_15 hl (by decide) rfl (fun ls hl => ?_)
  refine lv_iconst (v := 1) hx hb dL_pump_17 (by decide) ?_
  exact W.iret hx hb hr (fun t ht hW => ⟨⟨1, (), rfl, rfl, trivial⟩, hS.F ht⟩) hS.2.2 dL_pump_18 hlocks
theorem mL_pump_x2_0 : Cond.classLink RL 13 xIO ∈ wsL_pump := by decide +kernel
set_option maxHeartbeats 4000000 in
set_option maxRecDepth 100000 in
theorem zL_pump_x2 (l : Launch) (hst : l.stackTraces = false) (D : va_G) (a : Nat → Nat) (cs : Nat → ClassId) (σ : sS) (o : Nat) (cJ : ClassId) (fl : Nat → Int64) (ho : ∀ i, i < 34 → a i ≠ o) (k : Nat) (hk : k < 8) (x0 : Int32) (hp : x0 < 0 ∨ ¬ x0 < 0 ∧ ¬ x0 < 8) (z : Int32) (sz : Nat) : Met l yL_pump wsL_pump ({ frames := 8, cells := 1, slots := 6, locals := 128 }) (va_Pc [.ref (a 0), .int (nI k), .int x0, .int z, .ref o] (hB D a cs σ o cJ fl sz)) (va_Qi (fun r (_ : Unit) => r = 1) (fun _ _ => True) (hAo a o sz)) 1 6 (hAo a o sz) := by
  refine va_MetW (cc := cL_pump) (maxL := 6) (ret := (some .int)) (by decide) rfl ?_
  intro p e s m args below meth c s₁ B hml hv
  obtain ⟨rfl, hB0, hXX, hPo, hKo, hNC⟩ := hv
  have hsz := hB0.1
  subst hsz
  have hx := B.exec
  have hb := B.bytes
  have hr := B.returns
  have hts := atoms_spec (ws := wsL_pump) B.pre
  have hown : s.vm.findClass RL = some m.cls := findClass_of_methodNamed B.named
  have hlocks := B.notSynchronized
  have hA : ∀ q : Nat, s.heap.size ≤ q → hAo a o s.heap.size q := fun q h => Or.inl (Or.inr h)
  have hK := hB0.2.2.1
  have hN := hB0.2.2.2.2
  have hw : sH D a cs (hAo a o s.heap.size) s.heap σ s.heap [] := ⟨hB0.2.1, (sD_self (sz := s.heap.size) hB0.2.2.2.1).weaken (fun _ _ _ h => Or.inl h), va_S.rf⟩
  have hl := lv_entry ([.ref (a 0), .int (nI k), .int x0, .int z, .ref o]) (n := 6) (Nat.le_of_ble_eq_true rfl)
  rw [lg_entry_eq]
  generalize (lg_sl ([.ref (a 0), .int (nI k), .int x0, .int z, .ref o]) ++ List.replicate (6 - (lg_sl ([.ref (a 0), .int (nI k), .int x0, .int z, .ref o])).length) Slot.unset).toArray = ls at hl ⊢
  have hl : lv_has ls 6 [(0, .ref (a 0)), (1, .int (nI k)), (2, .int x0), (3, .int z), (4, .ref o)] := hl
  refine lv_aload hx hb dL_pump_0 (lv_at hl 4 rfl) ?_
  refine lv_iconst (v := 0) hx hb dL_pump_2 (by decide) ?_
  refine lv_aload_n hx hb dL_pump_3 rfl (lv_at hl 0 rfl) ?_
  refine lv_iload_n hx hb dL_pump_4 rfl (lv_at hl 1 rfl) ?_
  refine lv_iload_n hx hb dL_pump_5 rfl (lv_at hl 2 rfl) ?_
  refine lv_iload_n hx hb dL_pump_6 rfl (lv_at hl 3 rfl) ?_
  have htab := vx_table (x := yL_pump) B (hts _ (show Cond.codeWith yL_pump cL_pump 6 (some .int) [(0, 12, 15, 13), (0, 12, 19, 15), (0, 12, 23, 17)] ∈ wsL_pump from List.mem_cons_self))
  refine hc_x (As := [.int (nI k), .int x0, .int z]) (rest := [.int 0, .ref o]) ⟨hx, hb, hml, hown, hts⟩ (zX3_pump_x2 l hst D a cs _ k hk x0 hp z) (cwV 3 hts gL_pump_X3_pump rfl rfl rfl (by decide +kernel) ⟨Nat.le_of_ble_eq_true rfl, Nat.le_of_ble_eq_true rfl⟩) hK hN hXX hw rfl hl.1 (Nat.le_of_ble_eq_true rfl) dL_pump_7 ⟨Nat.le_of_ble_eq_true rfl, Nat.le_of_ble_eq_true rfl⟩ (fun qE ce H1 locs1 hS hce hcv hcl => ?_)
  refine vx_catch (name := xIO) hown [] ⟨0, 12, 15, 13⟩ [⟨0, 12, 19, 15⟩, ⟨0, 12, 23, 17⟩] htab (fun z hz => nomatch hz) (by decide) (by decide) (hts _ mL_pump_x2_0) (sX_words hXX _ _ hCaIO) hce hcv hcl ?_
  refine lv_astore (lv' := [(5, .ref qE), (0, .ref (a 0)), (1, .int (nI k)), (2, .int x0), (3, .int z), (4, .ref o)]) hx hb dL_pump_15 hl (by decide) rfl (fun ls hl => ?_)
  refine lv_iconst (v := 1) hx hb dL_pump_17 (by decide) ?_
  exact W.iret hx hb hr (fun t ht hW => ⟨⟨1, (), rfl, rfl, trivial⟩, hS.F ht⟩) hS.2.2 dL_pump_18 hlocks
theorem mL_pump_x3_0 : Cond.classLink RL 13 xIO ∈ wsL_pump := by decide +kernel
theorem mL_pump_x3_1 : Cond.classLink RL 15 xIA ∈ wsL_pump := by decide +kernel
set_option maxHeartbeats 4000000 in
set_option maxRecDepth 100000 in
theorem zL_pump_x3 (l : Launch) (hst : l.stackTraces = false) (D : va_G) (a : Nat → Nat) (cs : Nat → ClassId) (σ : sS) (o : Nat) (cJ : ClassId) (fl : Nat → Int64) (ho : ∀ i, i < 34 → a i ≠ o) (k j : Nat) (hk : k < 8) (hj : j < 8) (z : Int32) (h1 : nI k = nI j) (sz : Nat) : Met l yL_pump wsL_pump ({ frames := 7, cells := 1, slots := 6, locals := 107 }) (va_Pc [.ref (a 0), .int (nI k), .int (nI j), .int z, .ref o] (hB D a cs σ o cJ fl sz)) (va_Qi (fun r (_ : Unit) => r = 2) (fun _ _ => True) (hAo a o sz)) 1 6 (hAo a o sz) := by
  refine va_MetW (cc := cL_pump) (maxL := 6) (ret := (some .int)) (by decide) rfl ?_
  intro p e s m args below meth c s₁ B hml hv
  obtain ⟨rfl, hB0, hXX, hPo, hKo, hNC⟩ := hv
  have hsz := hB0.1
  subst hsz
  have hx := B.exec
  have hb := B.bytes
  have hr := B.returns
  have hts := atoms_spec (ws := wsL_pump) B.pre
  have hown : s.vm.findClass RL = some m.cls := findClass_of_methodNamed B.named
  have hlocks := B.notSynchronized
  have hA : ∀ q : Nat, s.heap.size ≤ q → hAo a o s.heap.size q := fun q h => Or.inl (Or.inr h)
  have hK := hB0.2.2.1
  have hN := hB0.2.2.2.2
  have hw : sH D a cs (hAo a o s.heap.size) s.heap σ s.heap [] := ⟨hB0.2.1, (sD_self (sz := s.heap.size) hB0.2.2.2.1).weaken (fun _ _ _ h => Or.inl h), va_S.rf⟩
  have hl := lv_entry ([.ref (a 0), .int (nI k), .int (nI j), .int z, .ref o]) (n := 6) (Nat.le_of_ble_eq_true rfl)
  rw [lg_entry_eq]
  generalize (lg_sl ([.ref (a 0), .int (nI k), .int (nI j), .int z, .ref o]) ++ List.replicate (6 - (lg_sl ([.ref (a 0), .int (nI k), .int (nI j), .int z, .ref o])).length) Slot.unset).toArray = ls at hl ⊢
  have hl : lv_has ls 6 [(0, .ref (a 0)), (1, .int (nI k)), (2, .int (nI j)), (3, .int z), (4, .ref o)] := hl
  refine lv_aload hx hb dL_pump_0 (lv_at hl 4 rfl) ?_
  refine lv_iconst (v := 0) hx hb dL_pump_2 (by decide) ?_
  refine lv_aload_n hx hb dL_pump_3 rfl (lv_at hl 0 rfl) ?_
  refine lv_iload_n hx hb dL_pump_4 rfl (lv_at hl 1 rfl) ?_
  refine lv_iload_n hx hb dL_pump_5 rfl (lv_at hl 2 rfl) ?_
  refine lv_iload_n hx hb dL_pump_6 rfl (lv_at hl 3 rfl) ?_
  have htab := vx_table (x := yL_pump) B (hts _ (show Cond.codeWith yL_pump cL_pump 6 (some .int) [(0, 12, 15, 13), (0, 12, 19, 15), (0, 12, 23, 17)] ∈ wsL_pump from List.mem_cons_self))
  refine hc_x (As := [.int (nI k), .int (nI j), .int z]) (rest := [.int 0, .ref o]) ⟨hx, hb, hml, hown, hts⟩ (zX3_pump_x3 l hst D a cs _ k j hk hj z h1) (cwV 3 hts gL_pump_X3_pump rfl rfl rfl (by decide +kernel) ⟨Nat.le_of_ble_eq_true rfl, Nat.le_of_ble_eq_true rfl⟩) hK hN hXX hw rfl hl.1 (Nat.le_of_ble_eq_true rfl) dL_pump_7 ⟨Nat.le_of_ble_eq_true rfl, Nat.le_of_ble_eq_true rfl⟩ (fun qE ce H1 locs1 hS hce hcv hcl => ?_)
  refine vx_catch (name := xIA) hown [⟨0, 12, 15, 13⟩] ⟨0, 12, 19, 15⟩ [⟨0, 12, 23, 17⟩] htab (fun z hz => by rw [List.mem_singleton] at hz; subst hz; exact Or.inr ⟨by decide, xIO, (hts _ mL_pump_x3_0), hNC.1⟩) (by decide) (by decide) (hts _ mL_pump_x3_1) (sX_words hXX _ _ hCaIA) hce hcv hcl ?_
  refine lv_astore (lv' := [(5, .ref qE), (0, .ref (a 0)), (1, .int (nI k)), (2, .int (nI j)), (3, .int z), (4, .ref o)]) hx hb dL_pump_19 hl (by decide) rfl (fun ls hl => ?_)
  refine lv_iconst (v := 2) hx hb dL_pump_21 (by decide) ?_
  exact W.iret hx hb hr (fun t ht hW => ⟨⟨2, (), rfl, rfl, trivial⟩, hS.F ht⟩) hS.2.2 dL_pump_22 hlocks
theorem mL_pump_x4_0 : Cond.classLink RL 13 xIO ∈ wsL_pump := by decide +kernel
theorem mL_pump_x4_1 : Cond.classLink RL 15 xIA ∈ wsL_pump := by decide +kernel
set_option maxHeartbeats 4000000 in
set_option maxRecDepth 100000 in
theorem zL_pump_x4 (l : Launch) (hst : l.stackTraces = false) (D : va_G) (a : Nat → Nat) (cs : Nat → ClassId) (σ : sS) (o : Nat) (cJ : ClassId) (fl : Nat → Int64) (ho : ∀ i, i < 34 → a i ≠ o) (k j : Nat) (hk : k < 8) (hj : j < 8) (z : Int32) (h1 : ¬ nI k = nI j) (h2 : ¬ 1 ≤ z) (sz : Nat) : Met l yL_pump wsL_pump ({ frames := 7, cells := 1, slots := 6, locals := 107 }) (va_Pc [.ref (a 0), .int (nI k), .int (nI j), .int z, .ref o] (hB D a cs σ o cJ fl sz)) (va_Qi (fun r (_ : Unit) => r = 2) (fun _ _ => True) (hAo a o sz)) 1 6 (hAo a o sz) := by
  refine va_MetW (cc := cL_pump) (maxL := 6) (ret := (some .int)) (by decide) rfl ?_
  intro p e s m args below meth c s₁ B hml hv
  obtain ⟨rfl, hB0, hXX, hPo, hKo, hNC⟩ := hv
  have hsz := hB0.1
  subst hsz
  have hx := B.exec
  have hb := B.bytes
  have hr := B.returns
  have hts := atoms_spec (ws := wsL_pump) B.pre
  have hown : s.vm.findClass RL = some m.cls := findClass_of_methodNamed B.named
  have hlocks := B.notSynchronized
  have hA : ∀ q : Nat, s.heap.size ≤ q → hAo a o s.heap.size q := fun q h => Or.inl (Or.inr h)
  have hK := hB0.2.2.1
  have hN := hB0.2.2.2.2
  have hw : sH D a cs (hAo a o s.heap.size) s.heap σ s.heap [] := ⟨hB0.2.1, (sD_self (sz := s.heap.size) hB0.2.2.2.1).weaken (fun _ _ _ h => Or.inl h), va_S.rf⟩
  have hl := lv_entry ([.ref (a 0), .int (nI k), .int (nI j), .int z, .ref o]) (n := 6) (Nat.le_of_ble_eq_true rfl)
  rw [lg_entry_eq]
  generalize (lg_sl ([.ref (a 0), .int (nI k), .int (nI j), .int z, .ref o]) ++ List.replicate (6 - (lg_sl ([.ref (a 0), .int (nI k), .int (nI j), .int z, .ref o])).length) Slot.unset).toArray = ls at hl ⊢
  have hl : lv_has ls 6 [(0, .ref (a 0)), (1, .int (nI k)), (2, .int (nI j)), (3, .int z), (4, .ref o)] := hl
  refine lv_aload hx hb dL_pump_0 (lv_at hl 4 rfl) ?_
  refine lv_iconst (v := 0) hx hb dL_pump_2 (by decide) ?_
  refine lv_aload_n hx hb dL_pump_3 rfl (lv_at hl 0 rfl) ?_
  refine lv_iload_n hx hb dL_pump_4 rfl (lv_at hl 1 rfl) ?_
  refine lv_iload_n hx hb dL_pump_5 rfl (lv_at hl 2 rfl) ?_
  refine lv_iload_n hx hb dL_pump_6 rfl (lv_at hl 3 rfl) ?_
  have htab := vx_table (x := yL_pump) B (hts _ (show Cond.codeWith yL_pump cL_pump 6 (some .int) [(0, 12, 15, 13), (0, 12, 19, 15), (0, 12, 23, 17)] ∈ wsL_pump from List.mem_cons_self))
  refine hc_x (As := [.int (nI k), .int (nI j), .int z]) (rest := [.int 0, .ref o]) ⟨hx, hb, hml, hown, hts⟩ (zX3_pump_x4 l hst D a cs _ k j hk hj z h1 h2) (cwV 3 hts gL_pump_X3_pump rfl rfl rfl (by decide +kernel) ⟨Nat.le_of_ble_eq_true rfl, Nat.le_of_ble_eq_true rfl⟩) hK hN hXX hw rfl hl.1 (Nat.le_of_ble_eq_true rfl) dL_pump_7 ⟨Nat.le_of_ble_eq_true rfl, Nat.le_of_ble_eq_true rfl⟩ (fun qE ce H1 locs1 hS hce hcv hcl => ?_)
  refine vx_catch (name := xIA) hown [⟨0, 12, 15, 13⟩] ⟨0, 12, 19, 15⟩ [⟨0, 12, 23, 17⟩] htab (fun z hz => by rw [List.mem_singleton] at hz; subst hz; exact Or.inr ⟨by decide, xIO, (hts _ mL_pump_x4_0), hNC.1⟩) (by decide) (by decide) (hts _ mL_pump_x4_1) (sX_words hXX _ _ hCaIA) hce hcv hcl ?_
  refine lv_astore (lv' := [(5, .ref qE), (0, .ref (a 0)), (1, .int (nI k)), (2, .int (nI j)), (3, .int z), (4, .ref o)]) hx hb dL_pump_19 hl (by decide) rfl (fun ls hl => ?_)
  refine lv_iconst (v := 2) hx hb dL_pump_21 (by decide) ?_
  exact W.iret hx hb hr (fun t ht hW => ⟨⟨2, (), rfl, rfl, trivial⟩, hS.F ht⟩) hS.2.2 dL_pump_22 hlocks
theorem mL_pump_x5_0 : Cond.classLink RL 13 xIO ∈ wsL_pump := by decide +kernel
theorem mL_pump_x5_1 : Cond.classLink RL 15 xIA ∈ wsL_pump := by decide +kernel
theorem mL_pump_x5_2 : Cond.classLink RL 17 xIS ∈ wsL_pump := by decide +kernel
set_option maxHeartbeats 4000000 in
set_option maxRecDepth 100000 in
theorem zL_pump_x5 (l : Launch) (hst : l.stackTraces = false) (D : va_G) (a : Nat → Nat) (cs : Nat → ClassId) (σ : sS) (o : Nat) (cJ : ClassId) (fl : Nat → Int64) (ho : ∀ i, i < 34 → a i ≠ o) (k j : Nat) (hk : k < 8) (hj : j < 8) (z : Int32) (h1 : ¬ nI k = nI j) (h2 : 1 ≤ z) (h3 : ¬ z ≤ σ (5 + 8 * 0 + k) 1) (sz : Nat) : Met l yL_pump wsL_pump ({ frames := 7, cells := 1, slots := 6, locals := 107 }) (va_Pc [.ref (a 0), .int (nI k), .int (nI j), .int z, .ref o] (hB D a cs σ o cJ fl sz)) (va_Qi (fun r (_ : Unit) => r = 3) (fun _ _ => True) (hAo a o sz)) 1 6 (hAo a o sz) := by
  refine va_MetW (cc := cL_pump) (maxL := 6) (ret := (some .int)) (by decide) rfl ?_
  intro p e s m args below meth c s₁ B hml hv
  obtain ⟨rfl, hB0, hXX, hPo, hKo, hNC⟩ := hv
  have hsz := hB0.1
  subst hsz
  have hx := B.exec
  have hb := B.bytes
  have hr := B.returns
  have hts := atoms_spec (ws := wsL_pump) B.pre
  have hown : s.vm.findClass RL = some m.cls := findClass_of_methodNamed B.named
  have hlocks := B.notSynchronized
  have hA : ∀ q : Nat, s.heap.size ≤ q → hAo a o s.heap.size q := fun q h => Or.inl (Or.inr h)
  have hK := hB0.2.2.1
  have hN := hB0.2.2.2.2
  have hw : sH D a cs (hAo a o s.heap.size) s.heap σ s.heap [] := ⟨hB0.2.1, (sD_self (sz := s.heap.size) hB0.2.2.2.1).weaken (fun _ _ _ h => Or.inl h), va_S.rf⟩
  have hl := lv_entry ([.ref (a 0), .int (nI k), .int (nI j), .int z, .ref o]) (n := 6) (Nat.le_of_ble_eq_true rfl)
  rw [lg_entry_eq]
  generalize (lg_sl ([.ref (a 0), .int (nI k), .int (nI j), .int z, .ref o]) ++ List.replicate (6 - (lg_sl ([.ref (a 0), .int (nI k), .int (nI j), .int z, .ref o])).length) Slot.unset).toArray = ls at hl ⊢
  have hl : lv_has ls 6 [(0, .ref (a 0)), (1, .int (nI k)), (2, .int (nI j)), (3, .int z), (4, .ref o)] := hl
  refine lv_aload hx hb dL_pump_0 (lv_at hl 4 rfl) ?_
  refine lv_iconst (v := 0) hx hb dL_pump_2 (by decide) ?_
  refine lv_aload_n hx hb dL_pump_3 rfl (lv_at hl 0 rfl) ?_
  refine lv_iload_n hx hb dL_pump_4 rfl (lv_at hl 1 rfl) ?_
  refine lv_iload_n hx hb dL_pump_5 rfl (lv_at hl 2 rfl) ?_
  refine lv_iload_n hx hb dL_pump_6 rfl (lv_at hl 3 rfl) ?_
  have htab := vx_table (x := yL_pump) B (hts _ (show Cond.codeWith yL_pump cL_pump 6 (some .int) [(0, 12, 15, 13), (0, 12, 19, 15), (0, 12, 23, 17)] ∈ wsL_pump from List.mem_cons_self))
  refine hc_x (As := [.int (nI k), .int (nI j), .int z]) (rest := [.int 0, .ref o]) ⟨hx, hb, hml, hown, hts⟩ (zX3_pump_x5 l hst D a cs _ k j hk hj z h1 h2 h3) (cwV 3 hts gL_pump_X3_pump rfl rfl rfl (by decide +kernel) ⟨Nat.le_of_ble_eq_true rfl, Nat.le_of_ble_eq_true rfl⟩) hK hN hXX hw rfl hl.1 (Nat.le_of_ble_eq_true rfl) dL_pump_7 ⟨Nat.le_of_ble_eq_true rfl, Nat.le_of_ble_eq_true rfl⟩ (fun qE ce H1 locs1 hS hce hcv hcl => ?_)
  refine vx_catch (name := xIS) hown [⟨0, 12, 15, 13⟩, ⟨0, 12, 19, 15⟩] ⟨0, 12, 23, 17⟩ [] htab (fun z hz => by rcases List.mem_cons.mp hz with e1 | hz; (subst e1; exact Or.inr ⟨by decide, xIO, (hts _ mL_pump_x5_0), hNC.2.1⟩); rw [List.mem_singleton] at hz; subst hz; exact Or.inr ⟨by decide, xIA, (hts _ mL_pump_x5_1), hNC.2.2⟩) (by decide) (by decide) (hts _ mL_pump_x5_2) (sX_words hXX _ _ hCaIS) hce hcv hcl ?_
  refine lv_astore (lv' := [(5, .ref qE), (0, .ref (a 0)), (1, .int (nI k)), (2, .int (nI j)), (3, .int z), (4, .ref o)]) hx hb dL_pump_23 hl (by decide) rfl (fun ls hl => ?_)
  refine lv_iconst (v := 3) hx hb dL_pump_25 (by decide) ?_
  exact W.iret hx hb hr (fun t ht hW => ⟨⟨3, (), rfl, rfl, trivial⟩, hS.F ht⟩) hS.2.2 dL_pump_26 hlocks
theorem mL_right_x1_0 : Cond.classLink RL 13 xIO ∈ wsL_right := by decide +kernel
set_option maxHeartbeats 4000000 in
set_option maxRecDepth 100000 in
theorem zL_right_x1 (l : Launch) (hst : l.stackTraces = false) (D : va_G) (a : Nat → Nat) (cs : Nat → ClassId) (σ : sS) (o : Nat) (cJ : ClassId) (fl : Nat → Int64) (ho : ∀ i, i < 34 → a i ≠ o) (x0 : Int32) (hp : x0 < 0 ∨ ¬ x0 < 0 ∧ ¬ x0 < σ 0 3) (y z : Int32) (sz : Nat) : Met l yL_right wsL_right ({ frames := 8, cells := 1, slots := 6, locals := 129 }) (va_Pc [.ref (a 0), .int x0, .int y, .int z, .ref o] (hB D a cs σ o cJ fl sz)) (va_Qi (fun r (_ : Unit) => r = 1) (fun _ _ => True) (hAo a o sz)) 1 6 (hAo a o sz) := by
  refine va_MetW (cc := cL_right) (maxL := 6) (ret := (some .int)) (by decide) rfl ?_
  intro p e s m args below meth c s₁ B hml hv
  obtain ⟨rfl, hB0, hXX, hPo, hKo, hNC⟩ := hv
  have hsz := hB0.1
  subst hsz
  have hx := B.exec
  have hb := B.bytes
  have hr := B.returns
  have hts := atoms_spec (ws := wsL_right) B.pre
  have hown : s.vm.findClass RL = some m.cls := findClass_of_methodNamed B.named
  have hlocks := B.notSynchronized
  have hA : ∀ q : Nat, s.heap.size ≤ q → hAo a o s.heap.size q := fun q h => Or.inl (Or.inr h)
  have hK := hB0.2.2.1
  have hN := hB0.2.2.2.2
  have hw : sH D a cs (hAo a o s.heap.size) s.heap σ s.heap [] := ⟨hB0.2.1, (sD_self (sz := s.heap.size) hB0.2.2.2.1).weaken (fun _ _ _ h => Or.inl h), va_S.rf⟩
  have hl := lv_entry ([.ref (a 0), .int x0, .int y, .int z, .ref o]) (n := 6) (Nat.le_of_ble_eq_true rfl)
  rw [lg_entry_eq]
  generalize (lg_sl ([.ref (a 0), .int x0, .int y, .int z, .ref o]) ++ List.replicate (6 - (lg_sl ([.ref (a 0), .int x0, .int y, .int z, .ref o])).length) Slot.unset).toArray = ls at hl ⊢
  have hl : lv_has ls 6 [(0, .ref (a 0)), (1, .int x0), (2, .int y), (3, .int z), (4, .ref o)] := hl
  refine lv_aload hx hb dL_right_0 (lv_at hl 4 rfl) ?_
  refine lv_iconst (v := 0) hx hb dL_right_2 (by decide) ?_
  refine lv_aload_n hx hb dL_right_3 rfl (lv_at hl 0 rfl) ?_
  refine lv_iload_n hx hb dL_right_4 rfl (lv_at hl 1 rfl) ?_
  refine lv_iload_n hx hb dL_right_5 rfl (lv_at hl 2 rfl) ?_
  refine lv_iload_n hx hb dL_right_6 rfl (lv_at hl 3 rfl) ?_
  have htab := vx_table (x := yL_right) B (hts _ (show Cond.codeWith yL_right cL_right 6 (some .int) [(0, 12, 15, 13), (0, 12, 19, 15), (0, 12, 23, 17)] ∈ wsL_right from List.mem_cons_self))
  refine hc_x (As := [.int x0, .int y, .int z]) (rest := [.int 0, .ref o]) ⟨hx, hb, hml, hown, hts⟩ (zX3_right_x1 l hst D a cs _ x0 hp y z) (cwV 3 hts gL_right_X3_right rfl rfl rfl (by decide +kernel) ⟨Nat.le_of_ble_eq_true rfl, Nat.le_of_ble_eq_true rfl⟩) hK hN hXX hw rfl hl.1 (Nat.le_of_ble_eq_true rfl) dL_right_7 ⟨Nat.le_of_ble_eq_true rfl, Nat.le_of_ble_eq_true rfl⟩ (fun qE ce H1 locs1 hS hce hcv hcl => ?_)
  refine vx_catch (name := xIO) hown [] ⟨0, 12, 15, 13⟩ [⟨0, 12, 19, 15⟩, ⟨0, 12, 23, 17⟩] htab (fun z hz => nomatch hz) (by decide) (by decide) (hts _ mL_right_x1_0) (sX_words hXX _ _ hCaIO) hce hcv hcl ?_
  refine lv_astore (lv' := [(5, .ref qE), (0, .ref (a 0)), (1, .int x0), (2, .int y), (3, .int z), (4, .ref o)]) hx hb dL_right_15 hl (by decide) rfl (fun ls hl => ?_)
  refine lv_iconst (v := 1) hx hb dL_right_17 (by decide) ?_
  exact W.iret hx hb hr (fun t ht hW => ⟨⟨1, (), rfl, rfl, trivial⟩, hS.F ht⟩) hS.2.2 dL_right_18 hlocks
theorem mL_rightOf_x1_0 : Cond.classLink RL 13 xIO ∈ wsL_rightOf := by decide +kernel
set_option maxHeartbeats 4000000 in
set_option maxRecDepth 100000 in
theorem zL_rightOf_x1 (l : Launch) (hst : l.stackTraces = false) (D : va_G) (a : Nat → Nat) (cs : Nat → ClassId) (σ : sS) (o : Nat) (cJ : ClassId) (fl : Nat → Int64) (ho : ∀ i, i < 34 → a i ≠ o) (x0 : Int32) (hp : x0 < 0 ∨ ¬ x0 < 0 ∧ ¬ x0 < σ 0 3) (y : Int32) (sz : Nat) : Met l yL_rightOf wsL_rightOf ({ frames := 8, cells := 1, slots := 6, locals := 127 }) (va_Pc [.ref (a 0), .int x0, .int y, .ref o] (hB D a cs σ o cJ fl sz)) (va_Qi (fun r (_ : Unit) => r = 1) (fun _ _ => True) (hAo a o sz)) 1 6 (hAo a o sz) := by
  refine va_MetW (cc := cL_rightOf) (maxL := 5) (ret := (some .int)) (by decide) rfl ?_
  intro p e s m args below meth c s₁ B hml hv
  obtain ⟨rfl, hB0, hXX, hPo, hKo, hNC⟩ := hv
  have hsz := hB0.1
  subst hsz
  have hx := B.exec
  have hb := B.bytes
  have hr := B.returns
  have hts := atoms_spec (ws := wsL_rightOf) B.pre
  have hown : s.vm.findClass RL = some m.cls := findClass_of_methodNamed B.named
  have hlocks := B.notSynchronized
  have hA : ∀ q : Nat, s.heap.size ≤ q → hAo a o s.heap.size q := fun q h => Or.inl (Or.inr h)
  have hK := hB0.2.2.1
  have hN := hB0.2.2.2.2
  have hw : sH D a cs (hAo a o s.heap.size) s.heap σ s.heap [] := ⟨hB0.2.1, (sD_self (sz := s.heap.size) hB0.2.2.2.1).weaken (fun _ _ _ h => Or.inl h), va_S.rf⟩
  have hl := lv_entry ([.ref (a 0), .int x0, .int y, .ref o]) (n := 5) (Nat.le_of_ble_eq_true rfl)
  rw [lg_entry_eq]
  generalize (lg_sl ([.ref (a 0), .int x0, .int y, .ref o]) ++ List.replicate (5 - (lg_sl ([.ref (a 0), .int x0, .int y, .ref o])).length) Slot.unset).toArray = ls at hl ⊢
  have hl : lv_has ls 5 [(0, .ref (a 0)), (1, .int x0), (2, .int y), (3, .ref o)] := hl
  refine lv_aload_n hx hb dL_rightOf_0 rfl (lv_at hl 3 rfl) ?_
  refine lv_iconst (v := 0) hx hb dL_rightOf_1 (by decide) ?_
  refine lv_aload_n hx hb dL_rightOf_2 rfl (lv_at hl 0 rfl) ?_
  refine lv_iload_n hx hb dL_rightOf_3 rfl (lv_at hl 1 rfl) ?_
  refine lv_iload_n hx hb dL_rightOf_4 rfl (lv_at hl 2 rfl) ?_
  have htab := vx_table (x := yL_rightOf) B (hts _ (show Cond.codeWith yL_rightOf cL_rightOf 5 (some .int) [(0, 10, 13, 13)] ∈ wsL_rightOf from List.mem_cons_self))
  refine hc_x (As := [.int x0, .int y]) (rest := [.int 0, .ref o]) ⟨hx, hb, hml, hown, hts⟩ (zX3_rightOf_x1 l hst D a cs _ x0 hp y) (cwV 2 hts gL_rightOf_X3_rightOf rfl rfl rfl (by decide +kernel) ⟨Nat.le_of_ble_eq_true rfl, Nat.le_of_ble_eq_true rfl⟩) hK hN hXX hw rfl hl.1 (Nat.le_of_ble_eq_true rfl) dL_rightOf_5 ⟨Nat.le_of_ble_eq_true rfl, Nat.le_of_ble_eq_true rfl⟩ (fun qE ce H1 locs1 hS hce hcv hcl => ?_)
  refine vx_catch (name := xIO) hown [] ⟨0, 10, 13, 13⟩ [] htab (fun z hz => nomatch hz) (by decide) (by decide) (hts _ mL_rightOf_x1_0) (sX_words hXX _ _ hCaIO) hce hcv hcl ?_
  refine lv_astore (lv' := [(4, .ref qE), (0, .ref (a 0)), (1, .int x0), (2, .int y), (3, .ref o)]) hx hb dL_rightOf_13 hl (by decide) rfl (fun ls hl => ?_)
  refine lv_iconst (v := 1) hx hb dL_rightOf_15 (by decide) ?_
  exact W.iret hx hb hr (fun t ht hW => ⟨⟨1, (), rfl, rfl, trivial⟩, hS.F ht⟩) hS.2.2 dL_rightOf_16 hlocks
theorem mL_sell_x1_0 : Cond.classLink RL 13 xIO ∈ wsL_sell := by decide +kernel
set_option maxHeartbeats 4000000 in
set_option maxRecDepth 100000 in
theorem zL_sell_x1 (l : Launch) (hst : l.stackTraces = false) (D : va_G) (a : Nat → Nat) (cs : Nat → ClassId) (σ : sS) (o : Nat) (cJ : ClassId) (fl : Nat → Int64) (ho : ∀ i, i < 34 → a i ≠ o) (x0 : Int32) (hp : x0 < 0 ∨ ¬ x0 < 0 ∧ ¬ x0 < σ 0 3) (y z : Int32) (sz : Nat) : Met l yL_sell wsL_sell ({ frames := 8, cells := 1, slots := 6, locals := 132 }) (va_Pc [.ref (a 0), .int x0, .int y, .int z, .ref o] (hB D a cs σ o cJ fl sz)) (va_Qi (fun r (_ : Unit) => r = 1) (fun _ _ => True) (hAo a o sz)) 1 6 (hAo a o sz) := by
  refine va_MetW (cc := cL_sell) (maxL := 6) (ret := (some .int)) (by decide) rfl ?_
  intro p e s m args below meth c s₁ B hml hv
  obtain ⟨rfl, hB0, hXX, hPo, hKo, hNC⟩ := hv
  have hsz := hB0.1
  subst hsz
  have hx := B.exec
  have hb := B.bytes
  have hr := B.returns
  have hts := atoms_spec (ws := wsL_sell) B.pre
  have hown : s.vm.findClass RL = some m.cls := findClass_of_methodNamed B.named
  have hlocks := B.notSynchronized
  have hA : ∀ q : Nat, s.heap.size ≤ q → hAo a o s.heap.size q := fun q h => Or.inl (Or.inr h)
  have hK := hB0.2.2.1
  have hN := hB0.2.2.2.2
  have hw : sH D a cs (hAo a o s.heap.size) s.heap σ s.heap [] := ⟨hB0.2.1, (sD_self (sz := s.heap.size) hB0.2.2.2.1).weaken (fun _ _ _ h => Or.inl h), va_S.rf⟩
  have hl := lv_entry ([.ref (a 0), .int x0, .int y, .int z, .ref o]) (n := 6) (Nat.le_of_ble_eq_true rfl)
  rw [lg_entry_eq]
  generalize (lg_sl ([.ref (a 0), .int x0, .int y, .int z, .ref o]) ++ List.replicate (6 - (lg_sl ([.ref (a 0), .int x0, .int y, .int z, .ref o])).length) Slot.unset).toArray = ls at hl ⊢
  have hl : lv_has ls 6 [(0, .ref (a 0)), (1, .int x0), (2, .int y), (3, .int z), (4, .ref o)] := hl
  refine lv_aload hx hb dL_sell_0 (lv_at hl 4 rfl) ?_
  refine lv_iconst (v := 0) hx hb dL_sell_2 (by decide) ?_
  refine lv_aload_n hx hb dL_sell_3 rfl (lv_at hl 0 rfl) ?_
  refine lv_iload_n hx hb dL_sell_4 rfl (lv_at hl 1 rfl) ?_
  refine lv_iload_n hx hb dL_sell_5 rfl (lv_at hl 2 rfl) ?_
  refine lv_iload_n hx hb dL_sell_6 rfl (lv_at hl 3 rfl) ?_
  have htab := vx_table (x := yL_sell) B (hts _ (show Cond.codeWith yL_sell cL_sell 6 (some .int) [(0, 12, 15, 13), (0, 12, 19, 15), (0, 12, 23, 17)] ∈ wsL_sell from List.mem_cons_self))
  refine hc_x (As := [.int x0, .int y, .int z]) (rest := [.int 0, .ref o]) ⟨hx, hb, hml, hown, hts⟩ (zX3_sell_x1 l hst D a cs _ x0 hp y z) (cwV 3 hts gL_sell_X3_sell rfl rfl rfl (by decide +kernel) ⟨Nat.le_of_ble_eq_true rfl, Nat.le_of_ble_eq_true rfl⟩) hK hN hXX hw rfl hl.1 (Nat.le_of_ble_eq_true rfl) dL_sell_7 ⟨Nat.le_of_ble_eq_true rfl, Nat.le_of_ble_eq_true rfl⟩ (fun qE ce H1 locs1 hS hce hcv hcl => ?_)
  refine vx_catch (name := xIO) hown [] ⟨0, 12, 15, 13⟩ [⟨0, 12, 19, 15⟩, ⟨0, 12, 23, 17⟩] htab (fun z hz => nomatch hz) (by decide) (by decide) (hts _ mL_sell_x1_0) (sX_words hXX _ _ hCaIO) hce hcv hcl ?_
  refine lv_astore (lv' := [(5, .ref qE), (0, .ref (a 0)), (1, .int x0), (2, .int y), (3, .int z), (4, .ref o)]) hx hb dL_sell_15 hl (by decide) rfl (fun ls hl => ?_)
  refine lv_iconst (v := 1) hx hb dL_sell_17 (by decide) ?_
  exact W.iret hx hb hr (fun t ht hW => ⟨⟨1, (), rfl, rfl, trivial⟩, hS.F ht⟩) hS.2.2 dL_sell_18 hlocks
theorem mL_skim_x1_0 : Cond.classLink RL 13 xIO ∈ wsL_skim := by decide +kernel
set_option maxHeartbeats 4000000 in
set_option maxRecDepth 100000 in
theorem zL_skim_x1 (l : Launch) (hst : l.stackTraces = false) (D : va_G) (a : Nat → Nat) (cs : Nat → ClassId) (σ : sS) (o : Nat) (cJ : ClassId) (fl : Nat → Int64) (ho : ∀ i, i < 34 → a i ≠ o) (x0 : Int32) (hp : x0 < 0 ∨ ¬ x0 < 0 ∧ ¬ x0 < 8)  (sz : Nat) : Met l yL_skim wsL_skim ({ frames := 8, cells := 1, slots := 6, locals := 127 }) (va_Pc [.ref (a 0), .int x0, .ref o] (hB D a cs σ o cJ fl sz)) (va_Qi (fun r (_ : Unit) => r = 1) (fun _ _ => True) (hAo a o sz)) 1 6 (hAo a o sz) := by
  refine va_MetW (cc := cL_skim) (maxL := 4) (ret := (some .int)) (by decide) rfl ?_
  intro p e s m args below meth c s₁ B hml hv
  obtain ⟨rfl, hB0, hXX, hPo, hKo, hNC⟩ := hv
  have hsz := hB0.1
  subst hsz
  have hx := B.exec
  have hb := B.bytes
  have hr := B.returns
  have hts := atoms_spec (ws := wsL_skim) B.pre
  have hown : s.vm.findClass RL = some m.cls := findClass_of_methodNamed B.named
  have hlocks := B.notSynchronized
  have hA : ∀ q : Nat, s.heap.size ≤ q → hAo a o s.heap.size q := fun q h => Or.inl (Or.inr h)
  have hK := hB0.2.2.1
  have hN := hB0.2.2.2.2
  have hw : sH D a cs (hAo a o s.heap.size) s.heap σ s.heap [] := ⟨hB0.2.1, (sD_self (sz := s.heap.size) hB0.2.2.2.1).weaken (fun _ _ _ h => Or.inl h), va_S.rf⟩
  have hl := lv_entry ([.ref (a 0), .int x0, .ref o]) (n := 4) (Nat.le_of_ble_eq_true rfl)
  rw [lg_entry_eq]
  generalize (lg_sl ([.ref (a 0), .int x0, .ref o]) ++ List.replicate (4 - (lg_sl ([.ref (a 0), .int x0, .ref o])).length) Slot.unset).toArray = ls at hl ⊢
  have hl : lv_has ls 4 [(0, .ref (a 0)), (1, .int x0), (2, .ref o)] := hl
  refine lv_aload_n hx hb dL_skim_0 rfl (lv_at hl 2 rfl) ?_
  refine lv_iconst (v := 0) hx hb dL_skim_1 (by decide) ?_
  refine lv_aload_n hx hb dL_skim_2 rfl (lv_at hl 0 rfl) ?_
  refine lv_iload_n hx hb dL_skim_3 rfl (lv_at hl 1 rfl) ?_
  have htab := vx_table (x := yL_skim) B (hts _ (show Cond.codeWith yL_skim cL_skim 4 (some .int) [(0, 9, 12, 13)] ∈ wsL_skim from List.mem_cons_self))
  refine hc_x (As := [.int x0]) (rest := [.int 0, .ref o]) ⟨hx, hb, hml, hown, hts⟩ (zX3_skim_x1 l hst D a cs _ x0 hp) (cwV 1 hts gL_skim_X3_skim rfl rfl rfl (by decide +kernel) ⟨Nat.le_of_ble_eq_true rfl, Nat.le_of_ble_eq_true rfl⟩) hK hN hXX hw rfl hl.1 (Nat.le_of_ble_eq_true rfl) dL_skim_4 ⟨Nat.le_of_ble_eq_true rfl, Nat.le_of_ble_eq_true rfl⟩ (fun qE ce H1 locs1 hS hce hcv hcl => ?_)
  refine vx_catch (name := xIO) hown [] ⟨0, 9, 12, 13⟩ [] htab (fun z hz => nomatch hz) (by decide) (by decide) (hts _ mL_skim_x1_0) (sX_words hXX _ _ hCaIO) hce hcv hcl ?_
  refine lv_astore_n (lv' := [(3, .ref qE), (0, .ref (a 0)), (1, .int x0), (2, .ref o)]) hx hb dL_skim_12 rfl hl (by decide) rfl (fun ls hl => ?_)
  refine lv_iconst (v := 1) hx hb dL_skim_13 (by decide) ?_
  exact W.iret hx hb hr (fun t ht hW => ⟨⟨1, (), rfl, rfl, trivial⟩, hS.F ht⟩) hS.2.2 dL_skim_14 hlocks
theorem mL_tide_x1_0 : Cond.classLink RL 15 xIA ∈ wsL_tide := by decide +kernel
set_option maxHeartbeats 4000000 in
set_option maxRecDepth 100000 in
theorem zL_tide_x1 (l : Launch) (hst : l.stackTraces = false) (D : va_G) (a : Nat → Nat) (cs : Nat → ClassId) (σ : sS) (o : Nat) (cJ : ClassId) (fl : Nat → Int64) (ho : ∀ i, i < 34 → a i ≠ o) (x : Int32) (h1 : x < 0) (sz : Nat) : Met l yL_tide wsL_tide ({ frames := 7, cells := 1, slots := 6, locals := 105 }) (va_Pc [.ref (a 0), .int x, .ref o] (hB D a cs σ o cJ fl sz)) (va_Qi (fun r (_ : Unit) => r = 1) (fun _ _ => True) (hAo a o sz)) 1 6 (hAo a o sz) := by
  refine va_MetW (cc := cL_tide) (maxL := 4) (ret := (some .int)) (by decide) rfl ?_
  intro p e s m args below meth c s₁ B hml hv
  obtain ⟨rfl, hB0, hXX, hPo, hKo, hNC⟩ := hv
  have hsz := hB0.1
  subst hsz
  have hx := B.exec
  have hb := B.bytes
  have hr := B.returns
  have hts := atoms_spec (ws := wsL_tide) B.pre
  have hown : s.vm.findClass RL = some m.cls := findClass_of_methodNamed B.named
  have hlocks := B.notSynchronized
  have hA : ∀ q : Nat, s.heap.size ≤ q → hAo a o s.heap.size q := fun q h => Or.inl (Or.inr h)
  have hK := hB0.2.2.1
  have hN := hB0.2.2.2.2
  have hw : sH D a cs (hAo a o s.heap.size) s.heap σ s.heap [] := ⟨hB0.2.1, (sD_self (sz := s.heap.size) hB0.2.2.2.1).weaken (fun _ _ _ h => Or.inl h), va_S.rf⟩
  have hl := lv_entry ([.ref (a 0), .int x, .ref o]) (n := 4) (Nat.le_of_ble_eq_true rfl)
  rw [lg_entry_eq]
  generalize (lg_sl ([.ref (a 0), .int x, .ref o]) ++ List.replicate (4 - (lg_sl ([.ref (a 0), .int x, .ref o])).length) Slot.unset).toArray = ls at hl ⊢
  have hl : lv_has ls 4 [(0, .ref (a 0)), (1, .int x), (2, .ref o)] := hl
  refine lv_aload_n hx hb dL_tide_0 rfl (lv_at hl 2 rfl) ?_
  refine lv_iconst (v := 0) hx hb dL_tide_1 (by decide) ?_
  refine lv_aload_n hx hb dL_tide_2 rfl (lv_at hl 0 rfl) ?_
  refine lv_iload_n hx hb dL_tide_3 rfl (lv_at hl 1 rfl) ?_
  have htab := vx_table (x := yL_tide) B (hts _ (show Cond.codeWith yL_tide cL_tide 4 (some .int) [(0, 9, 12, 15)] ∈ wsL_tide from List.mem_cons_self))
  refine hc_x (As := [.int x]) (rest := [.int 0, .ref o]) ⟨hx, hb, hml, hown, hts⟩ (zX3_tide_x1 l hst D a cs _ x h1) (cwV 1 hts gL_tide_X3_tide rfl rfl rfl (by decide +kernel) ⟨Nat.le_of_ble_eq_true rfl, Nat.le_of_ble_eq_true rfl⟩) hK hN hXX hw rfl hl.1 (Nat.le_of_ble_eq_true rfl) dL_tide_4 ⟨Nat.le_of_ble_eq_true rfl, Nat.le_of_ble_eq_true rfl⟩ (fun qE ce H1 locs1 hS hce hcv hcl => ?_)
  refine vx_catch (name := xIA) hown [] ⟨0, 9, 12, 15⟩ [] htab (fun z hz => nomatch hz) (by decide) (by decide) (hts _ mL_tide_x1_0) (sX_words hXX _ _ hCaIA) hce hcv hcl ?_
  refine lv_astore_n (lv' := [(3, .ref qE), (0, .ref (a 0)), (1, .int x), (2, .ref o)]) hx hb dL_tide_12 rfl hl (by decide) rfl (fun ls hl => ?_)
  refine lv_iconst (v := 1) hx hb dL_tide_13 (by decide) ?_
  exact W.iret hx hb hr (fun t ht hW => ⟨⟨1, (), rfl, rfl, trivial⟩, hS.F ht⟩) hS.2.2 dL_tide_14 hlocks
theorem mL_tide_x2_0 : Cond.classLink RL 15 xIA ∈ wsL_tide := by decide +kernel
set_option maxHeartbeats 4000000 in
set_option maxRecDepth 100000 in
theorem zL_tide_x2 (l : Launch) (hst : l.stackTraces = false) (D : va_G) (a : Nat → Nat) (cs : Nat → ClassId) (σ : sS) (o : Nat) (cJ : ClassId) (fl : Nat → Int64) (ho : ∀ i, i < 34 → a i ≠ o) (x : Int32) (h1 : ¬ x < 0) (h2 : ¬ x ≤ 9999) (sz : Nat) : Met l yL_tide wsL_tide ({ frames := 7, cells := 1, slots := 6, locals := 105 }) (va_Pc [.ref (a 0), .int x, .ref o] (hB D a cs σ o cJ fl sz)) (va_Qi (fun r (_ : Unit) => r = 1) (fun _ _ => True) (hAo a o sz)) 1 6 (hAo a o sz) := by
  refine va_MetW (cc := cL_tide) (maxL := 4) (ret := (some .int)) (by decide) rfl ?_
  intro p e s m args below meth c s₁ B hml hv
  obtain ⟨rfl, hB0, hXX, hPo, hKo, hNC⟩ := hv
  have hsz := hB0.1
  subst hsz
  have hx := B.exec
  have hb := B.bytes
  have hr := B.returns
  have hts := atoms_spec (ws := wsL_tide) B.pre
  have hown : s.vm.findClass RL = some m.cls := findClass_of_methodNamed B.named
  have hlocks := B.notSynchronized
  have hA : ∀ q : Nat, s.heap.size ≤ q → hAo a o s.heap.size q := fun q h => Or.inl (Or.inr h)
  have hK := hB0.2.2.1
  have hN := hB0.2.2.2.2
  have hw : sH D a cs (hAo a o s.heap.size) s.heap σ s.heap [] := ⟨hB0.2.1, (sD_self (sz := s.heap.size) hB0.2.2.2.1).weaken (fun _ _ _ h => Or.inl h), va_S.rf⟩
  have hl := lv_entry ([.ref (a 0), .int x, .ref o]) (n := 4) (Nat.le_of_ble_eq_true rfl)
  rw [lg_entry_eq]
  generalize (lg_sl ([.ref (a 0), .int x, .ref o]) ++ List.replicate (4 - (lg_sl ([.ref (a 0), .int x, .ref o])).length) Slot.unset).toArray = ls at hl ⊢
  have hl : lv_has ls 4 [(0, .ref (a 0)), (1, .int x), (2, .ref o)] := hl
  refine lv_aload_n hx hb dL_tide_0 rfl (lv_at hl 2 rfl) ?_
  refine lv_iconst (v := 0) hx hb dL_tide_1 (by decide) ?_
  refine lv_aload_n hx hb dL_tide_2 rfl (lv_at hl 0 rfl) ?_
  refine lv_iload_n hx hb dL_tide_3 rfl (lv_at hl 1 rfl) ?_
  have htab := vx_table (x := yL_tide) B (hts _ (show Cond.codeWith yL_tide cL_tide 4 (some .int) [(0, 9, 12, 15)] ∈ wsL_tide from List.mem_cons_self))
  refine hc_x (As := [.int x]) (rest := [.int 0, .ref o]) ⟨hx, hb, hml, hown, hts⟩ (zX3_tide_x2 l hst D a cs _ x h1 h2) (cwV 1 hts gL_tide_X3_tide rfl rfl rfl (by decide +kernel) ⟨Nat.le_of_ble_eq_true rfl, Nat.le_of_ble_eq_true rfl⟩) hK hN hXX hw rfl hl.1 (Nat.le_of_ble_eq_true rfl) dL_tide_4 ⟨Nat.le_of_ble_eq_true rfl, Nat.le_of_ble_eq_true rfl⟩ (fun qE ce H1 locs1 hS hce hcv hcl => ?_)
  refine vx_catch (name := xIA) hown [] ⟨0, 9, 12, 15⟩ [] htab (fun z hz => nomatch hz) (by decide) (by decide) (hts _ mL_tide_x2_0) (sX_words hXX _ _ hCaIA) hce hcv hcl ?_
  refine lv_astore_n (lv' := [(3, .ref qE), (0, .ref (a 0)), (1, .int x), (2, .ref o)]) hx hb dL_tide_12 rfl hl (by decide) rfl (fun ls hl => ?_)
  refine lv_iconst (v := 1) hx hb dL_tide_13 (by decide) ?_
  exact W.iret hx hb hr (fun t ht hW => ⟨⟨1, (), rfl, rfl, trivial⟩, hS.F ht⟩) hS.2.2 dL_tide_14 hlocks
theorem mL_tideOn_x1_0 : Cond.classLink RL 15 xIA ∈ wsL_tideOn := by decide +kernel
set_option maxHeartbeats 4000000 in
set_option maxRecDepth 100000 in
theorem zL_tideOn_x1 (l : Launch) (hst : l.stackTraces = false) (D : va_G) (a : Nat → Nat) (cs : Nat → ClassId) (σ : sS) (o : Nat) (cJ : ClassId) (fl : Nat → Int64) (ho : ∀ i, i < 34 → a i ≠ o) (x y : Int32) (h1 : x < 0) (sz : Nat) : Met l yL_tideOn wsL_tideOn ({ frames := 7, cells := 1, slots := 6, locals := 108 }) (va_Pc [.ref (a 0), .int x, .int y, .ref o] (hB D a cs σ o cJ fl sz)) (va_Qi (fun r (_ : Unit) => r = 1) (fun _ _ => True) (hAo a o sz)) 1 6 (hAo a o sz) := by
  refine va_MetW (cc := cL_tideOn) (maxL := 5) (ret := (some .int)) (by decide) rfl ?_
  intro p e s m args below meth c s₁ B hml hv
  obtain ⟨rfl, hB0, hXX, hPo, hKo, hNC⟩ := hv
  have hsz := hB0.1
  subst hsz
  have hx := B.exec
  have hb := B.bytes
  have hr := B.returns
  have hts := atoms_spec (ws := wsL_tideOn) B.pre
  have hown : s.vm.findClass RL = some m.cls := findClass_of_methodNamed B.named
  have hlocks := B.notSynchronized
  have hA : ∀ q : Nat, s.heap.size ≤ q → hAo a o s.heap.size q := fun q h => Or.inl (Or.inr h)
  have hK := hB0.2.2.1
  have hN := hB0.2.2.2.2
  have hw : sH D a cs (hAo a o s.heap.size) s.heap σ s.heap [] := ⟨hB0.2.1, (sD_self (sz := s.heap.size) hB0.2.2.2.1).weaken (fun _ _ _ h => Or.inl h), va_S.rf⟩
  have hl := lv_entry ([.ref (a 0), .int x, .int y, .ref o]) (n := 5) (Nat.le_of_ble_eq_true rfl)
  rw [lg_entry_eq]
  generalize (lg_sl ([.ref (a 0), .int x, .int y, .ref o]) ++ List.replicate (5 - (lg_sl ([.ref (a 0), .int x, .int y, .ref o])).length) Slot.unset).toArray = ls at hl ⊢
  have hl : lv_has ls 5 [(0, .ref (a 0)), (1, .int x), (2, .int y), (3, .ref o)] := hl
  refine lv_aload_n hx hb dL_tideOn_0 rfl (lv_at hl 3 rfl) ?_
  refine lv_iconst (v := 0) hx hb dL_tideOn_1 (by decide) ?_
  refine lv_aload_n hx hb dL_tideOn_2 rfl (lv_at hl 0 rfl) ?_
  refine lv_iload_n hx hb dL_tideOn_3 rfl (lv_at hl 1 rfl) ?_
  refine lv_iload_n hx hb dL_tideOn_4 rfl (lv_at hl 2 rfl) ?_
  have htab := vx_table (x := yL_tideOn) B (hts _ (show Cond.codeWith yL_tideOn cL_tideOn 5 (some .int) [(0, 10, 13, 15)] ∈ wsL_tideOn from List.mem_cons_self))
  refine hc_x (As := [.int x, .int y]) (rest := [.int 0, .ref o]) ⟨hx, hb, hml, hown, hts⟩ (zX3_tideOn_x1 l hst D a cs _ x y h1) (cwV 2 hts gL_tideOn_X3_tideOn rfl rfl rfl (by decide +kernel) ⟨Nat.le_of_ble_eq_true rfl, Nat.le_of_ble_eq_true rfl⟩) hK hN hXX hw rfl hl.1 (Nat.le_of_ble_eq_true rfl) dL_tideOn_5 ⟨Nat.le_of_ble_eq_true rfl, Nat.le_of_ble_eq_true rfl⟩ (fun qE ce H1 locs1 hS hce hcv hcl => ?_)
  refine vx_catch (name := xIA) hown [] ⟨0, 10, 13, 15⟩ [] htab (fun z hz => nomatch hz) (by decide) (by decide) (hts _ mL_tideOn_x1_0) (sX_words hXX _ _ hCaIA) hce hcv hcl ?_
  refine lv_astore (lv' := [(4, .ref qE), (0, .ref (a 0)), (1, .int x), (2, .int y), (3, .ref o)]) hx hb dL_tideOn_13 hl (by decide) rfl (fun ls hl => ?_)
  refine lv_iconst (v := 1) hx hb dL_tideOn_15 (by decide) ?_
  exact W.iret hx hb hr (fun t ht hW => ⟨⟨1, (), rfl, rfl, trivial⟩, hS.F ht⟩) hS.2.2 dL_tideOn_16 hlocks
theorem mL_tideOn_x2_0 : Cond.classLink RL 15 xIA ∈ wsL_tideOn := by decide +kernel
set_option maxHeartbeats 4000000 in
set_option maxRecDepth 100000 in
theorem zL_tideOn_x2 (l : Launch) (hst : l.stackTraces = false) (D : va_G) (a : Nat → Nat) (cs : Nat → ClassId) (σ : sS) (o : Nat) (cJ : ClassId) (fl : Nat → Int64) (ho : ∀ i, i < 34 → a i ≠ o) (x y : Int32) (h1 : ¬ x < 0) (h2 : ¬ x ≤ 20) (sz : Nat) : Met l yL_tideOn wsL_tideOn ({ frames := 7, cells := 1, slots := 6, locals := 108 }) (va_Pc [.ref (a 0), .int x, .int y, .ref o] (hB D a cs σ o cJ fl sz)) (va_Qi (fun r (_ : Unit) => r = 1) (fun _ _ => True) (hAo a o sz)) 1 6 (hAo a o sz) := by
  refine va_MetW (cc := cL_tideOn) (maxL := 5) (ret := (some .int)) (by decide) rfl ?_
  intro p e s m args below meth c s₁ B hml hv
  obtain ⟨rfl, hB0, hXX, hPo, hKo, hNC⟩ := hv
  have hsz := hB0.1
  subst hsz
  have hx := B.exec
  have hb := B.bytes
  have hr := B.returns
  have hts := atoms_spec (ws := wsL_tideOn) B.pre
  have hown : s.vm.findClass RL = some m.cls := findClass_of_methodNamed B.named
  have hlocks := B.notSynchronized
  have hA : ∀ q : Nat, s.heap.size ≤ q → hAo a o s.heap.size q := fun q h => Or.inl (Or.inr h)
  have hK := hB0.2.2.1
  have hN := hB0.2.2.2.2
  have hw : sH D a cs (hAo a o s.heap.size) s.heap σ s.heap [] := ⟨hB0.2.1, (sD_self (sz := s.heap.size) hB0.2.2.2.1).weaken (fun _ _ _ h => Or.inl h), va_S.rf⟩
  have hl := lv_entry ([.ref (a 0), .int x, .int y, .ref o]) (n := 5) (Nat.le_of_ble_eq_true rfl)
  rw [lg_entry_eq]
  generalize (lg_sl ([.ref (a 0), .int x, .int y, .ref o]) ++ List.replicate (5 - (lg_sl ([.ref (a 0), .int x, .int y, .ref o])).length) Slot.unset).toArray = ls at hl ⊢
  have hl : lv_has ls 5 [(0, .ref (a 0)), (1, .int x), (2, .int y), (3, .ref o)] := hl
  refine lv_aload_n hx hb dL_tideOn_0 rfl (lv_at hl 3 rfl) ?_
  refine lv_iconst (v := 0) hx hb dL_tideOn_1 (by decide) ?_
  refine lv_aload_n hx hb dL_tideOn_2 rfl (lv_at hl 0 rfl) ?_
  refine lv_iload_n hx hb dL_tideOn_3 rfl (lv_at hl 1 rfl) ?_
  refine lv_iload_n hx hb dL_tideOn_4 rfl (lv_at hl 2 rfl) ?_
  have htab := vx_table (x := yL_tideOn) B (hts _ (show Cond.codeWith yL_tideOn cL_tideOn 5 (some .int) [(0, 10, 13, 15)] ∈ wsL_tideOn from List.mem_cons_self))
  refine hc_x (As := [.int x, .int y]) (rest := [.int 0, .ref o]) ⟨hx, hb, hml, hown, hts⟩ (zX3_tideOn_x2 l hst D a cs _ x y h1 h2) (cwV 2 hts gL_tideOn_X3_tideOn rfl rfl rfl (by decide +kernel) ⟨Nat.le_of_ble_eq_true rfl, Nat.le_of_ble_eq_true rfl⟩) hK hN hXX hw rfl hl.1 (Nat.le_of_ble_eq_true rfl) dL_tideOn_5 ⟨Nat.le_of_ble_eq_true rfl, Nat.le_of_ble_eq_true rfl⟩ (fun qE ce H1 locs1 hS hce hcv hcl => ?_)
  refine vx_catch (name := xIA) hown [] ⟨0, 10, 13, 15⟩ [] htab (fun z hz => nomatch hz) (by decide) (by decide) (hts _ mL_tideOn_x2_0) (sX_words hXX _ _ hCaIA) hce hcv hcl ?_
  refine lv_astore (lv' := [(4, .ref qE), (0, .ref (a 0)), (1, .int x), (2, .int y), (3, .ref o)]) hx hb dL_tideOn_13 hl (by decide) rfl (fun ls hl => ?_)
  refine lv_iconst (v := 1) hx hb dL_tideOn_15 (by decide) ?_
  exact W.iret hx hb hr (fun t ht hW => ⟨⟨1, (), rfl, rfl, trivial⟩, hS.F ht⟩) hS.2.2 dL_tideOn_16 hlocks
theorem mL_wash_x1_0 : Cond.classLink RL 13 xIO ∈ wsL_wash := by decide +kernel
set_option maxHeartbeats 4000000 in
set_option maxRecDepth 100000 in
theorem zL_wash_x1 (l : Launch) (hst : l.stackTraces = false) (D : va_G) (a : Nat → Nat) (cs : Nat → ClassId) (σ : sS) (o : Nat) (cJ : ClassId) (fl : Nat → Int64) (ho : ∀ i, i < 34 → a i ≠ o) (x0 : Int32) (hp : x0 < 0 ∨ ¬ x0 < 0 ∧ ¬ x0 < σ 0 3)  (sz : Nat) : Met l yL_wash wsL_wash ({ frames := 8, cells := 1, slots := 6, locals := 128 }) (va_Pc [.ref (a 0), .int x0, .ref o] (hB D a cs σ o cJ fl sz)) (va_Qi (fun r (_ : Unit) => r = 1) (fun _ _ => True) (hAo a o sz)) 1 6 (hAo a o sz) := by
  refine va_MetW (cc := cL_wash) (maxL := 4) (ret := (some .int)) (by decide) rfl ?_
  intro p e s m args below meth c s₁ B hml hv
  obtain ⟨rfl, hB0, hXX, hPo, hKo, hNC⟩ := hv
  have hsz := hB0.1
  subst hsz
  have hx := B.exec
  have hb := B.bytes
  have hr := B.returns
  have hts := atoms_spec (ws := wsL_wash) B.pre
  have hown : s.vm.findClass RL = some m.cls := findClass_of_methodNamed B.named
  have hlocks := B.notSynchronized
  have hA : ∀ q : Nat, s.heap.size ≤ q → hAo a o s.heap.size q := fun q h => Or.inl (Or.inr h)
  have hK := hB0.2.2.1
  have hN := hB0.2.2.2.2
  have hw : sH D a cs (hAo a o s.heap.size) s.heap σ s.heap [] := ⟨hB0.2.1, (sD_self (sz := s.heap.size) hB0.2.2.2.1).weaken (fun _ _ _ h => Or.inl h), va_S.rf⟩
  have hl := lv_entry ([.ref (a 0), .int x0, .ref o]) (n := 4) (Nat.le_of_ble_eq_true rfl)
  rw [lg_entry_eq]
  generalize (lg_sl ([.ref (a 0), .int x0, .ref o]) ++ List.replicate (4 - (lg_sl ([.ref (a 0), .int x0, .ref o])).length) Slot.unset).toArray = ls at hl ⊢
  have hl : lv_has ls 4 [(0, .ref (a 0)), (1, .int x0), (2, .ref o)] := hl
  refine lv_aload_n hx hb dL_wash_0 rfl (lv_at hl 2 rfl) ?_
  refine lv_iconst (v := 0) hx hb dL_wash_1 (by decide) ?_
  refine lv_aload_n hx hb dL_wash_2 rfl (lv_at hl 0 rfl) ?_
  refine lv_iload_n hx hb dL_wash_3 rfl (lv_at hl 1 rfl) ?_
  have htab := vx_table (x := yL_wash) B (hts _ (show Cond.codeWith yL_wash cL_wash 4 (some .int) [(0, 9, 12, 13), (0, 9, 15, 17)] ∈ wsL_wash from List.mem_cons_self))
  refine hc_x (As := [.int x0]) (rest := [.int 0, .ref o]) ⟨hx, hb, hml, hown, hts⟩ (zX3_wash_x1 l hst D a cs _ x0 hp) (cwV 1 hts gL_wash_X3_wash rfl rfl rfl (by decide +kernel) ⟨Nat.le_of_ble_eq_true rfl, Nat.le_of_ble_eq_true rfl⟩) hK hN hXX hw rfl hl.1 (Nat.le_of_ble_eq_true rfl) dL_wash_4 ⟨Nat.le_of_ble_eq_true rfl, Nat.le_of_ble_eq_true rfl⟩ (fun qE ce H1 locs1 hS hce hcv hcl => ?_)
  refine vx_catch (name := xIO) hown [] ⟨0, 9, 12, 13⟩ [⟨0, 9, 15, 17⟩] htab (fun z hz => nomatch hz) (by decide) (by decide) (hts _ mL_wash_x1_0) (sX_words hXX _ _ hCaIO) hce hcv hcl ?_
  refine lv_astore_n (lv' := [(3, .ref qE), (0, .ref (a 0)), (1, .int x0), (2, .ref o)]) hx hb dL_wash_12 rfl hl (by decide) rfl (fun ls hl => ?_)
  refine lv_iconst (v := 1) hx hb dL_wash_13 (by decide) ?_
  exact W.iret hx hb hr (fun t ht hW => ⟨⟨1, (), rfl, rfl, trivial⟩, hS.F ht⟩) hS.2.2 dL_wash_14 hlocks
theorem mL_wouldBe_x1_0 : Cond.classLink RL 13 xIO ∈ wsL_wouldBe := by decide +kernel
set_option maxHeartbeats 4000000 in
set_option maxRecDepth 100000 in
theorem zL_wouldBe_x1 (l : Launch) (hst : l.stackTraces = false) (D : va_G) (a : Nat → Nat) (cs : Nat → ClassId) (σ : sS) (o : Nat) (cJ : ClassId) (fl : Nat → Int64) (ho : ∀ i, i < 34 → a i ≠ o) (x0 : Int32) (hp : x0 < 5 ∨ ¬ x0 < 5 ∧ ¬ x0 < 8) (y z : Int32) (sz : Nat) : Met l yL_wouldBe wsL_wouldBe ({ frames := 8, cells := 1, slots := 6, locals := 133 }) (va_Pc [.ref (a 0), .int x0, .int y, .int z, .ref o] (hB D a cs σ o cJ fl sz)) (va_Qi (fun r (_ : Unit) => r = 1) (fun _ _ => True) (hAo a o sz)) 1 6 (hAo a o sz) := by
  refine va_MetW (cc := cL_wouldBe) (maxL := 6) (ret := (some .int)) (by decide) rfl ?_
  intro p e s m args below meth c s₁ B hml hv
  obtain ⟨rfl, hB0, hXX, hPo, hKo, hNC⟩ := hv
  have hsz := hB0.1
  subst hsz
  have hx := B.exec
  have hb := B.bytes
  have hr := B.returns
  have hts := atoms_spec (ws := wsL_wouldBe) B.pre
  have hown : s.vm.findClass RL = some m.cls := findClass_of_methodNamed B.named
  have hlocks := B.notSynchronized
  have hA : ∀ q : Nat, s.heap.size ≤ q → hAo a o s.heap.size q := fun q h => Or.inl (Or.inr h)
  have hK := hB0.2.2.1
  have hN := hB0.2.2.2.2
  have hw : sH D a cs (hAo a o s.heap.size) s.heap σ s.heap [] := ⟨hB0.2.1, (sD_self (sz := s.heap.size) hB0.2.2.2.1).weaken (fun _ _ _ h => Or.inl h), va_S.rf⟩
  have hl := lv_entry ([.ref (a 0), .int x0, .int y, .int z, .ref o]) (n := 6) (Nat.le_of_ble_eq_true rfl)
  rw [lg_entry_eq]
  generalize (lg_sl ([.ref (a 0), .int x0, .int y, .int z, .ref o]) ++ List.replicate (6 - (lg_sl ([.ref (a 0), .int x0, .int y, .int z, .ref o])).length) Slot.unset).toArray = ls at hl ⊢
  have hl : lv_has ls 6 [(0, .ref (a 0)), (1, .int x0), (2, .int y), (3, .int z), (4, .ref o)] := hl
  refine lv_aload hx hb dL_wouldBe_0 (lv_at hl 4 rfl) ?_
  refine lv_iconst (v := 0) hx hb dL_wouldBe_2 (by decide) ?_
  refine lv_aload_n hx hb dL_wouldBe_3 rfl (lv_at hl 0 rfl) ?_
  refine lv_iload_n hx hb dL_wouldBe_4 rfl (lv_at hl 1 rfl) ?_
  refine lv_iload_n hx hb dL_wouldBe_5 rfl (lv_at hl 2 rfl) ?_
  refine lv_iload_n hx hb dL_wouldBe_6 rfl (lv_at hl 3 rfl) ?_
  have htab := vx_table (x := yL_wouldBe) B (hts _ (show Cond.codeWith yL_wouldBe cL_wouldBe 6 (some .int) [(0, 12, 15, 13)] ∈ wsL_wouldBe from List.mem_cons_self))
  refine hc_x (As := [.int x0, .int y, .int z]) (rest := [.int 0, .ref o]) ⟨hx, hb, hml, hown, hts⟩ (zX3_wouldBe_x1 l hst D a cs _ x0 hp y z) (cwV 3 hts gL_wouldBe_X3_wouldBe rfl rfl rfl (by decide +kernel) ⟨Nat.le_of_ble_eq_true rfl, Nat.le_of_ble_eq_true rfl⟩) hK hN hXX hw rfl hl.1 (Nat.le_of_ble_eq_true rfl) dL_wouldBe_7 ⟨Nat.le_of_ble_eq_true rfl, Nat.le_of_ble_eq_true rfl⟩ (fun qE ce H1 locs1 hS hce hcv hcl => ?_)
  refine vx_catch (name := xIO) hown [] ⟨0, 12, 15, 13⟩ [] htab (fun z hz => nomatch hz) (by decide) (by decide) (hts _ mL_wouldBe_x1_0) (sX_words hXX _ _ hCaIO) hce hcv hcl ?_
  refine lv_astore (lv' := [(5, .ref qE), (0, .ref (a 0)), (1, .int x0), (2, .int y), (3, .int z), (4, .ref o)]) hx hb dL_wouldBe_15 hl (by decide) rfl (fun ls hl => ?_)
  refine lv_iconst (v := 1) hx hb dL_wouldBe_17 (by decide) ?_
  exact W.iret hx hb hr (fun t ht hW => ⟨⟨1, (), rfl, rfl, trivial⟩, hS.F ht⟩) hS.2.2 dL_wouldBe_18 hlocks
theorem mL_wouldBe_x2_0 : Cond.classLink RL 13 xIO ∈ wsL_wouldBe := by decide +kernel
set_option maxHeartbeats 4000000 in
set_option maxRecDepth 100000 in
theorem zL_wouldBe_x2 (l : Launch) (hst : l.stackTraces = false) (D : va_G) (a : Nat → Nat) (cs : Nat → ClassId) (σ : sS) (o : Nat) (cJ : ClassId) (fl : Nat → Int64) (ho : ∀ i, i < 34 → a i ≠ o) (q : Nat) (hq : q < 3) (x0 : Int32) (hp : x0 < 0 ∨ ¬ x0 < 0 ∧ ¬ x0 < σ 0 3) (y : Int32) (sz : Nat) : Met l yL_wouldBe wsL_wouldBe ({ frames := 8, cells := 1, slots := 6, locals := 133 }) (va_Pc [.ref (a 0), .int (nI (5 + q)), .int y, .int x0, .ref o] (hB D a cs σ o cJ fl sz)) (va_Qi (fun r (_ : Unit) => r = 1) (fun _ _ => True) (hAo a o sz)) 1 6 (hAo a o sz) := by
  refine va_MetW (cc := cL_wouldBe) (maxL := 6) (ret := (some .int)) (by decide) rfl ?_
  intro p e s m args below meth c s₁ B hml hv
  obtain ⟨rfl, hB0, hXX, hPo, hKo, hNC⟩ := hv
  have hsz := hB0.1
  subst hsz
  have hx := B.exec
  have hb := B.bytes
  have hr := B.returns
  have hts := atoms_spec (ws := wsL_wouldBe) B.pre
  have hown : s.vm.findClass RL = some m.cls := findClass_of_methodNamed B.named
  have hlocks := B.notSynchronized
  have hA : ∀ q : Nat, s.heap.size ≤ q → hAo a o s.heap.size q := fun q h => Or.inl (Or.inr h)
  have hK := hB0.2.2.1
  have hN := hB0.2.2.2.2
  have hw : sH D a cs (hAo a o s.heap.size) s.heap σ s.heap [] := ⟨hB0.2.1, (sD_self (sz := s.heap.size) hB0.2.2.2.1).weaken (fun _ _ _ h => Or.inl h), va_S.rf⟩
  have hl := lv_entry ([.ref (a 0), .int (nI (5 + q)), .int y, .int x0, .ref o]) (n := 6) (Nat.le_of_ble_eq_true rfl)
  rw [lg_entry_eq]
  generalize (lg_sl ([.ref (a 0), .int (nI (5 + q)), .int y, .int x0, .ref o]) ++ List.replicate (6 - (lg_sl ([.ref (a 0), .int (nI (5 + q)), .int y, .int x0, .ref o])).length) Slot.unset).toArray = ls at hl ⊢
  have hl : lv_has ls 6 [(0, .ref (a 0)), (1, .int (nI (5 + q))), (2, .int y), (3, .int x0), (4, .ref o)] := hl
  refine lv_aload hx hb dL_wouldBe_0 (lv_at hl 4 rfl) ?_
  refine lv_iconst (v := 0) hx hb dL_wouldBe_2 (by decide) ?_
  refine lv_aload_n hx hb dL_wouldBe_3 rfl (lv_at hl 0 rfl) ?_
  refine lv_iload_n hx hb dL_wouldBe_4 rfl (lv_at hl 1 rfl) ?_
  refine lv_iload_n hx hb dL_wouldBe_5 rfl (lv_at hl 2 rfl) ?_
  refine lv_iload_n hx hb dL_wouldBe_6 rfl (lv_at hl 3 rfl) ?_
  have htab := vx_table (x := yL_wouldBe) B (hts _ (show Cond.codeWith yL_wouldBe cL_wouldBe 6 (some .int) [(0, 12, 15, 13)] ∈ wsL_wouldBe from List.mem_cons_self))
  refine hc_x (As := [.int (nI (5 + q)), .int y, .int x0]) (rest := [.int 0, .ref o]) ⟨hx, hb, hml, hown, hts⟩ (zX3_wouldBe_x2 l hst D a cs _ q hq x0 hp y) (cwV 3 hts gL_wouldBe_X3_wouldBe rfl rfl rfl (by decide +kernel) ⟨Nat.le_of_ble_eq_true rfl, Nat.le_of_ble_eq_true rfl⟩) hK hN hXX hw rfl hl.1 (Nat.le_of_ble_eq_true rfl) dL_wouldBe_7 ⟨Nat.le_of_ble_eq_true rfl, Nat.le_of_ble_eq_true rfl⟩ (fun qE ce H1 locs1 hS hce hcv hcl => ?_)
  refine vx_catch (name := xIO) hown [] ⟨0, 12, 15, 13⟩ [] htab (fun z hz => nomatch hz) (by decide) (by decide) (hts _ mL_wouldBe_x2_0) (sX_words hXX _ _ hCaIO) hce hcv hcl ?_
  refine lv_astore (lv' := [(5, .ref qE), (0, .ref (a 0)), (1, .int (nI (5 + q))), (2, .int y), (3, .int x0), (4, .ref o)]) hx hb dL_wouldBe_15 hl (by decide) rfl (fun ls hl => ?_)
  refine lv_iconst (v := 1) hx hb dL_wouldBe_17 (by decide) ?_
  exact W.iret hx hb hr (fun t ht hW => ⟨⟨1, (), rfl, rfl, trivial⟩, hS.F ht⟩) hS.2.2 dL_wouldBe_18 hlocks
set_option maxHeartbeats 4000000 in
set_option maxRecDepth 100000 in
theorem zL_area_n (l : Launch) (hst : l.stackTraces = false) (D : va_G) (a : Nat → Nat) (cs : Nat → ClassId) (σ : sS) (o : Nat) (cJ : ClassId) (fl : Nat → Int64) (ho : ∀ i, i < 34 → a i ≠ o) (k : Nat) (hk : k < 8) (x : Int32) (hx1 : ¬ x < 1) (hx9 : x ≤ 9) (hd : σ (1 + 0) 1 ≤ 0) (sz : Nat) : Met l yL_area wsL_area ({ frames := 2, cells := 1, slots := 6, locals := 44 }) (va_Pc [.ref (a 0), .int (nI k), .int x, .ref o] (hB D a cs σ o cJ fl sz)) (va_Qi (fun r (u : Nat → Int64) => r = 0 ∧ u 0 = (σ (5 + 8 * 0 + k) 0).toInt64) (fun u t => va_P D vwCl (hO o cJ u) t.heap) (hAo a o sz)) 1 6 (hAo a o sz) := by
  refine va_MetW (cc := cL_area) (maxL := 5) (ret := (some .int)) (by decide) rfl ?_
  intro p e s m args below meth c s₁ B hml hv
  obtain ⟨rfl, hB0, hXX, hPo, hKo, hNC⟩ := hv
  have hsz := hB0.1
  subst hsz
  have hx := B.exec
  have hb := B.bytes
  have hr := B.returns
  have hts := atoms_spec (ws := wsL_area) B.pre
  have hown : s.vm.findClass RL = some m.cls := findClass_of_methodNamed B.named
  have hlocks := B.notSynchronized
  have hA : ∀ q : Nat, s.heap.size ≤ q → hAo a o s.heap.size q := fun q h => Or.inl (Or.inr h)
  have hK := hB0.2.2.1
  have hN := hB0.2.2.2.2
  have hw : sH D a cs (hAo a o s.heap.size) s.heap σ s.heap [] := ⟨hB0.2.1, (sD_self (sz := s.heap.size) hB0.2.2.2.1).weaken (fun _ _ _ h => Or.inl h), va_S.rf⟩
  have hl := lv_entry ([.ref (a 0), .int (nI k), .int x, .ref o]) (n := 5) (Nat.le_of_ble_eq_true rfl)
  rw [lg_entry_eq]
  generalize (lg_sl ([.ref (a 0), .int (nI k), .int x, .ref o]) ++ List.replicate (5 - (lg_sl ([.ref (a 0), .int (nI k), .int x, .ref o])).length) Slot.unset).toArray = ls at hl ⊢
  have hl : lv_has ls 5 [(0, .ref (a 0)), (1, .int (nI k)), (2, .int x), (3, .ref o)] := hl
  refine lv_aload_n hx hb dL_area_0 rfl (lv_at hl 3 rfl) ?_
  refine lv_iconst (v := 0) hx hb dL_area_1 (by decide) ?_
  refine lv_aload_n hx hb dL_area_2 rfl (lv_at hl 0 rfl) ?_
  refine lv_iload_n hx hb dL_area_3 rfl (lv_at hl 1 rfl) ?_
  refine lv_iload_n hx hb dL_area_4 rfl (lv_at hl 2 rfl) ?_
  refine hc_i (sr_V (i := 0) (As := [.int (nI k), .int x]) (rest := [.int 0, .ref o]) ⟨hx, hb, hml, hown, hts⟩ (zX3_area l D a cs _ k hk x hx1 hx9 hd _) (cwV 2 hts gL_area_X3_area rfl rfl rfl (by decide +kernel) ⟨Nat.le_of_ble_eq_true rfl, Nat.le_of_ble_eq_true rfl⟩) hK hN hw (by omega) sE_o kcX3 rfl hl.1 (Nat.le_of_ble_eq_true rfl) dL_area_5 ⟨Nat.le_of_ble_eq_true rfl, Nat.le_of_ble_eq_true rfl⟩) hw hA hPo ho (fun H locs hw hPo => ?_)
  refine lv_i2l hx hb dL_area_8 rfl ?_
  refine va_last hx hb hKo hPo hO_D hw.2.2 0 0 rfl rfl (vp_in_nI (n := 0) (by decide) (by decide)) dL_area_9 (fun H locs hPo hDo hS => ?_)
  have hPo : va_P D vwCl (hO o cJ (vp_updL fl 0 ((σ (5 + 8 * 0 + k) 0).toInt64))) H := hPo
  refine lv_goto (tgt := 25) hx hb dL_area_10 (by decide) ?_
  refine lv_iconst (v := 0) hx hb dL_area_25 (by decide) ?_
  refine W.widen (k := 1) (n := 6) (Nat.le_of_ble_eq_true rfl) (Nat.le_of_ble_eq_true rfl) ?_
  exact W.iret hx hb hr (fun t ht hW => ⟨⟨0, vp_updL fl 0 ((σ (5 + 8 * 0 + k) 0).toInt64), rfl, ⟨rfl, pk_uLs⟩, by show va_P D vwCl _ t.heap; rw [ht]; exact hPo⟩, hS.F ht⟩) hS.2.2 dL_area_26 hlocks
set_option maxHeartbeats 4000000 in
set_option maxRecDepth 100000 in
theorem zL_gate_n (l : Launch) (hst : l.stackTraces = false) (D : va_G) (a : Nat → Nat) (cs : Nat → ClassId) (σ : sS) (o : Nat) (cJ : ClassId) (fl : Nat → Int64) (ho : ∀ i, i < 34 → a i ≠ o) (k : Nat) (hk : k < 8) (x : Int32) (hzx : x = 0 ∨ x = 1) (hzo : σ (5 + 8 * 0 + k) 9 = 0 ∨ σ (5 + 8 * 0 + k) 9 = 1) (hv0 : σ (5 + 8 * 0 + k) 9 = 0) (sz : Nat) : Met l yL_gate wsL_gate ({ frames := 2, cells := 1, slots := 6, locals := 44 }) (va_Pc [.ref (a 0), .int (nI k), .int x, .ref o] (hB D a cs σ o cJ fl sz)) (va_Qi (fun r (u : Nat → Int64) => r = 0 ∧ u 0 = 0) (fun u t => va_P D vwCl (hO o cJ u) t.heap) (hAo a o sz)) 1 6 (hAo a o sz) := by
  refine va_MetW (cc := cL_gate) (maxL := 5) (ret := (some .int)) (by decide) rfl ?_
  intro p e s m args below meth c s₁ B hml hv
  obtain ⟨rfl, hB0, hXX, hPo, hKo, hNC⟩ := hv
  have hsz := hB0.1
  subst hsz
  have hx := B.exec
  have hb := B.bytes
  have hr := B.returns
  have hts := atoms_spec (ws := wsL_gate) B.pre
  have hown : s.vm.findClass RL = some m.cls := findClass_of_methodNamed B.named
  have hlocks := B.notSynchronized
  have hA : ∀ q : Nat, s.heap.size ≤ q → hAo a o s.heap.size q := fun q h => Or.inl (Or.inr h)
  have hK := hB0.2.2.1
  have hN := hB0.2.2.2.2
  have hw : sH D a cs (hAo a o s.heap.size) s.heap σ s.heap [] := ⟨hB0.2.1, (sD_self (sz := s.heap.size) hB0.2.2.2.1).weaken (fun _ _ _ h => Or.inl h), va_S.rf⟩
  have hl := lv_entry ([.ref (a 0), .int (nI k), .int x, .ref o]) (n := 5) (Nat.le_of_ble_eq_true rfl)
  rw [lg_entry_eq]
  generalize (lg_sl ([.ref (a 0), .int (nI k), .int x, .ref o]) ++ List.replicate (5 - (lg_sl ([.ref (a 0), .int (nI k), .int x, .ref o])).length) Slot.unset).toArray = ls at hl ⊢
  have hl : lv_has ls 5 [(0, .ref (a 0)), (1, .int (nI k)), (2, .int x), (3, .ref o)] := hl
  refine lv_aload_n hx hb dL_gate_0 rfl (lv_at hl 3 rfl) ?_
  refine lv_iconst (v := 0) hx hb dL_gate_1 (by decide) ?_
  refine lv_aload_n hx hb dL_gate_2 rfl (lv_at hl 0 rfl) ?_
  refine lv_iload_n hx hb dL_gate_3 rfl (lv_at hl 1 rfl) ?_
  refine lv_iload_n hx hb dL_gate_4 rfl (lv_at hl 2 rfl) ?_
  refine hc_i (sr_V (i := 0) (As := [.int (nI k), .int x]) (rest := [.int 0, .ref o]) ⟨hx, hb, hml, hown, hts⟩ (zX3_gate l D a cs _ k hk x hzx hzo _) (cwV 2 hts gL_gate_X3_gate rfl rfl rfl (by decide +kernel) ⟨Nat.le_of_ble_eq_true rfl, Nat.le_of_ble_eq_true rfl⟩) hK hN hw (by omega) sE_o kcX3 rfl hl.1 (Nat.le_of_ble_eq_true rfl) dL_gate_5 ⟨Nat.le_of_ble_eq_true rfl, Nat.le_of_ble_eq_true rfl⟩) hw hA hPo ho (fun H locs hw hPo => ?_)
  refine lv_if_eq (tgt := 15) hx hb dL_gate_8 (by decide) (fun c1 => ?_) (fun c1 => absurd hv0 c1)
  refine lv_lconst (v := 0) hx hb dL_gate_15 (by decide) ?_
  refine va_last hx hb hKo hPo hO_D hw.2.2 0 0 rfl rfl (vp_in_nI (n := 0) (by decide) (by decide)) dL_gate_16 (fun H locs hPo hDo hS => ?_)
  have hPo : va_P D vwCl (hO o cJ (vp_updL fl 0 (0))) H := hPo
  refine lv_goto (tgt := 24) hx hb dL_gate_17 (by decide) ?_
  refine lv_iconst (v := 0) hx hb dL_gate_24 (by decide) ?_
  refine W.widen (k := 1) (n := 6) (Nat.le_of_ble_eq_true rfl) (Nat.le_of_ble_eq_true rfl) ?_
  exact W.iret hx hb hr (fun t ht hW => ⟨⟨0, vp_updL fl 0 (0), rfl, ⟨rfl, pk_uLs⟩, by show va_P D vwCl _ t.heap; rw [ht]; exact hPo⟩, hS.F ht⟩) hS.2.2 dL_gate_25 hlocks
set_option maxHeartbeats 4000000 in
set_option maxRecDepth 100000 in
theorem zL_cover_n (l : Launch) (hst : l.stackTraces = false) (D : va_G) (a : Nat → Nat) (cs : Nat → ClassId) (σ : sS) (o : Nat) (cJ : ClassId) (fl : Nat → Int64) (ho : ∀ i, i < 34 → a i ≠ o) (q : Nat) (hq : q < 3) (x : Int32) (hzx : x = 0 ∨ x = 1) (hzo : σ (5 + 8 * 0 + (5 + q)) 10 = 0 ∨ σ (5 + 8 * 0 + (5 + q)) 10 = 1) (hv0 : σ (5 + 8 * 0 + (5 + q)) 10 = 0) (sz : Nat) : Met l yL_cover wsL_cover ({ frames := 2, cells := 1, slots := 6, locals := 44 }) (va_Pc [.ref (a 0), .int (nI (5 + q)), .int x, .ref o] (hB D a cs σ o cJ fl sz)) (va_Qi (fun r (u : Nat → Int64) => r = 0 ∧ u 0 = 0) (fun u t => va_P D vwCl (hO o cJ u) t.heap) (hAo a o sz)) 1 6 (hAo a o sz) := by
  refine va_MetW (cc := cL_cover) (maxL := 5) (ret := (some .int)) (by decide) rfl ?_
  intro p e s m args below meth c s₁ B hml hv
  obtain ⟨rfl, hB0, hXX, hPo, hKo, hNC⟩ := hv
  have hsz := hB0.1
  subst hsz
  have hx := B.exec
  have hb := B.bytes
  have hr := B.returns
  have hts := atoms_spec (ws := wsL_cover) B.pre
  have hown : s.vm.findClass RL = some m.cls := findClass_of_methodNamed B.named
  have hlocks := B.notSynchronized
  have hA : ∀ q : Nat, s.heap.size ≤ q → hAo a o s.heap.size q := fun q h => Or.inl (Or.inr h)
  have hK := hB0.2.2.1
  have hN := hB0.2.2.2.2
  have hw : sH D a cs (hAo a o s.heap.size) s.heap σ s.heap [] := ⟨hB0.2.1, (sD_self (sz := s.heap.size) hB0.2.2.2.1).weaken (fun _ _ _ h => Or.inl h), va_S.rf⟩
  have hl := lv_entry ([.ref (a 0), .int (nI (5 + q)), .int x, .ref o]) (n := 5) (Nat.le_of_ble_eq_true rfl)
  rw [lg_entry_eq]
  generalize (lg_sl ([.ref (a 0), .int (nI (5 + q)), .int x, .ref o]) ++ List.replicate (5 - (lg_sl ([.ref (a 0), .int (nI (5 + q)), .int x, .ref o])).length) Slot.unset).toArray = ls at hl ⊢
  have hl : lv_has ls 5 [(0, .ref (a 0)), (1, .int (nI (5 + q))), (2, .int x), (3, .ref o)] := hl
  refine lv_aload_n hx hb dL_cover_0 rfl (lv_at hl 3 rfl) ?_
  refine lv_iconst (v := 0) hx hb dL_cover_1 (by decide) ?_
  refine lv_aload_n hx hb dL_cover_2 rfl (lv_at hl 0 rfl) ?_
  refine lv_iload_n hx hb dL_cover_3 rfl (lv_at hl 1 rfl) ?_
  refine lv_iload_n hx hb dL_cover_4 rfl (lv_at hl 2 rfl) ?_
  refine hc_i (sr_V (i := 0) (As := [.int (nI (5 + q)), .int x]) (rest := [.int 0, .ref o]) ⟨hx, hb, hml, hown, hts⟩ (zX3_cover l D a cs _ q hq x hzx hzo _) (cwV 2 hts gL_cover_X3_cover rfl rfl rfl (by decide +kernel) ⟨Nat.le_of_ble_eq_true rfl, Nat.le_of_ble_eq_true rfl⟩) hK hN hw (by omega) sE_o kcX3 rfl hl.1 (Nat.le_of_ble_eq_true rfl) dL_cover_5 ⟨Nat.le_of_ble_eq_true rfl, Nat.le_of_ble_eq_true rfl⟩) hw hA hPo ho (fun H locs hw hPo => ?_)
  refine lv_if_eq (tgt := 15) hx hb dL_cover_8 (by decide) (fun c1 => ?_) (fun c1 => absurd hv0 c1)
  refine lv_lconst (v := 0) hx hb dL_cover_15 (by decide) ?_
  refine va_last hx hb hKo hPo hO_D hw.2.2 0 0 rfl rfl (vp_in_nI (n := 0) (by decide) (by decide)) dL_cover_16 (fun H locs hPo hDo hS => ?_)
  have hPo : va_P D vwCl (hO o cJ (vp_updL fl 0 (0))) H := hPo
  refine lv_goto (tgt := 24) hx hb dL_cover_17 (by decide) ?_
  refine lv_iconst (v := 0) hx hb dL_cover_24 (by decide) ?_
  refine W.widen (k := 1) (n := 6) (Nat.le_of_ble_eq_true rfl) (Nat.le_of_ble_eq_true rfl) ?_
  exact W.iret hx hb hr (fun t ht hW => ⟨⟨0, vp_updL fl 0 (0), rfl, ⟨rfl, pk_uLs⟩, by show va_P D vwCl _ t.heap; rw [ht]; exact hPo⟩, hS.F ht⟩) hS.2.2 dL_cover_25 hlocks
set_option maxHeartbeats 4000000 in
set_option maxRecDepth 100000 in
theorem zL_pass_n (l : Launch) (hst : l.stackTraces = false) (D : va_G) (a : Nat → Nat) (cs : Nat → ClassId) (σ : sS) (o : Nat) (cJ : ClassId) (fl : Nat → Int64) (ho : ∀ i, i < 34 → a i ≠ o) (n0 : Nat) (hn : 1 ≤ n0 ∧ n0 ≤ 30) (x y z : Int32) (hx0 : ¬ x < 0) (hx9 : x ≤ 9) (hy0 : ¬ y < 0) (hy9 : y ≤ 9) (hz0 : ¬ z < 0) (hz40 : z ≤ 40) (hd : σ (1 + 0) 1 + nI n0 ≤ 5000) (sz : Nat) : Met l yL_pass wsL_pass ({ frames := 5, cells := 1, slots := 6, locals := 125 }) (va_Pc [.ref (a 0), .int (nI n0), .int x, .int y, .int z, .ref o] (hB D a cs σ o cJ fl sz)) (va_Qi (fun r (u : Nat → Int64) => r = 0 ∧ u 0 = (f_X3_fell x y z n0 σ 0).toInt64) (fun u t => va_P D vwCl (hO o cJ u) t.heap) (hAo a o sz)) 1 6 (hAo a o sz) := by
  refine va_MetW (cc := cL_pass) (maxL := 7) (ret := (some .int)) (by decide) rfl ?_
  intro p e s m args below meth c s₁ B hml hv
  obtain ⟨rfl, hB0, hXX, hPo, hKo, hNC⟩ := hv
  have hsz := hB0.1
  subst hsz
  have hx := B.exec
  have hb := B.bytes
  have hr := B.returns
  have hts := atoms_spec (ws := wsL_pass) B.pre
  have hown : s.vm.findClass RL = some m.cls := findClass_of_methodNamed B.named
  have hlocks := B.notSynchronized
  have hA : ∀ q : Nat, s.heap.size ≤ q → hAo a o s.heap.size q := fun q h => Or.inl (Or.inr h)
  have hK := hB0.2.2.1
  have hN := hB0.2.2.2.2
  have hw : sH D a cs (hAo a o s.heap.size) s.heap σ s.heap [] := ⟨hB0.2.1, (sD_self (sz := s.heap.size) hB0.2.2.2.1).weaken (fun _ _ _ h => Or.inl h), va_S.rf⟩
  have hl := lv_entry ([.ref (a 0), .int (nI n0), .int x, .int y, .int z, .ref o]) (n := 7) (Nat.le_of_ble_eq_true rfl)
  rw [lg_entry_eq]
  generalize (lg_sl ([.ref (a 0), .int (nI n0), .int x, .int y, .int z, .ref o]) ++ List.replicate (7 - (lg_sl ([.ref (a 0), .int (nI n0), .int x, .int y, .int z, .ref o])).length) Slot.unset).toArray = ls at hl ⊢
  have hl : lv_has ls 7 [(0, .ref (a 0)), (1, .int (nI n0)), (2, .int x), (3, .int y), (4, .int z), (5, .ref o)] := hl
  refine lv_aload hx hb dL_pass_0 (lv_at hl 5 rfl) ?_
  refine lv_iconst (v := 0) hx hb dL_pass_2 (by decide) ?_
  refine lv_aload_n hx hb dL_pass_3 rfl (lv_at hl 0 rfl) ?_
  refine lv_iload_n hx hb dL_pass_4 rfl (lv_at hl 1 rfl) ?_
  refine lv_iload_n hx hb dL_pass_5 rfl (lv_at hl 2 rfl) ?_
  refine lv_iload_n hx hb dL_pass_6 rfl (lv_at hl 3 rfl) ?_
  refine lv_iload hx hb dL_pass_7 (lv_at hl 4 rfl) ?_
  refine hc_i (sr_V (i := 0) (As := [.int (nI n0), .int x, .int y, .int z]) (rest := [.int 0, .ref o]) ⟨hx, hb, hml, hown, hts⟩ (zX3_pass l D a cs _ n0 hn x y z hx0 hx9 hy0 hy9 hz0 hz40 hd _) (cwV 4 hts gL_pass_X3_pass rfl rfl rfl (by decide +kernel) ⟨Nat.le_of_ble_eq_true rfl, Nat.le_of_ble_eq_true rfl⟩) hK hN hw (by omega) sE_o kcX3 rfl hl.1 (Nat.le_of_ble_eq_true rfl) dL_pass_9 ⟨Nat.le_of_ble_eq_true rfl, Nat.le_of_ble_eq_true rfl⟩) hw hA hPo ho (fun H locs hw hPo => ?_)
  refine lv_i2l hx hb dL_pass_12 rfl ?_
  refine va_last hx hb hKo hPo hO_D hw.2.2 0 0 rfl rfl (vp_in_nI (n := 0) (by decide) (by decide)) dL_pass_13 (fun H locs hPo hDo hS => ?_)
  have hPo : va_P D vwCl (hO o cJ (vp_updL fl 0 ((f_X3_fell x y z n0 σ 0).toInt64))) H := hPo
  refine lv_goto (tgt := 25) hx hb dL_pass_14 (by decide) ?_
  refine lv_iconst (v := 0) hx hb dL_pass_25 (by decide) ?_
  refine W.widen (k := 1) (n := 6) (Nat.le_of_ble_eq_true rfl) (Nat.le_of_ble_eq_true rfl) ?_
  exact W.iret hx hb hr (fun t ht hW => ⟨⟨0, vp_updL fl 0 ((f_X3_fell x y z n0 σ 0).toInt64), rfl, ⟨rfl, pk_uLs⟩, by show va_P D vwCl _ t.heap; rw [ht]; exact hPo⟩, hS.F ht⟩) hS.2.2 dL_pass_26 hlocks
set_option maxHeartbeats 4000000 in
set_option maxRecDepth 100000 in
theorem zL_skim_n (l : Launch) (hst : l.stackTraces = false) (D : va_G) (a : Nat → Nat) (cs : Nat → ClassId) (σ : sS) (o : Nat) (cJ : ClassId) (fl : Nat → Int64) (ho : ∀ i, i < 34 → a i ≠ o) (k : Nat) (hk : k < 8) (sz : Nat) : Met l yL_skim wsL_skim ({ frames := 2, cells := 1, slots := 6, locals := 43 }) (va_Pc [.ref (a 0), .int (nI k), .ref o] (hB D a cs σ o cJ fl sz)) (va_Qi (fun r (u : Nat → Int64) => r = 0 ∧ u 0 = (σ (5 + 8 * 0 + k) 5).toInt64) (fun u t => va_P D vwCl (hO o cJ u) t.heap) (hAo a o sz)) 1 6 (hAo a o sz) := by
  refine va_MetW (cc := cL_skim) (maxL := 4) (ret := (some .int)) (by decide) rfl ?_
  intro p e s m args below meth c s₁ B hml hv
  obtain ⟨rfl, hB0, hXX, hPo, hKo, hNC⟩ := hv
  have hsz := hB0.1
  subst hsz
  have hx := B.exec
  have hb := B.bytes
  have hr := B.returns
  have hts := atoms_spec (ws := wsL_skim) B.pre
  have hown : s.vm.findClass RL = some m.cls := findClass_of_methodNamed B.named
  have hlocks := B.notSynchronized
  have hA : ∀ q : Nat, s.heap.size ≤ q → hAo a o s.heap.size q := fun q h => Or.inl (Or.inr h)
  have hK := hB0.2.2.1
  have hN := hB0.2.2.2.2
  have hw : sH D a cs (hAo a o s.heap.size) s.heap σ s.heap [] := ⟨hB0.2.1, (sD_self (sz := s.heap.size) hB0.2.2.2.1).weaken (fun _ _ _ h => Or.inl h), va_S.rf⟩
  have hl := lv_entry ([.ref (a 0), .int (nI k), .ref o]) (n := 4) (Nat.le_of_ble_eq_true rfl)
  rw [lg_entry_eq]
  generalize (lg_sl ([.ref (a 0), .int (nI k), .ref o]) ++ List.replicate (4 - (lg_sl ([.ref (a 0), .int (nI k), .ref o])).length) Slot.unset).toArray = ls at hl ⊢
  have hl : lv_has ls 4 [(0, .ref (a 0)), (1, .int (nI k)), (2, .ref o)] := hl
  refine lv_aload_n hx hb dL_skim_0 rfl (lv_at hl 2 rfl) ?_
  refine lv_iconst (v := 0) hx hb dL_skim_1 (by decide) ?_
  refine lv_aload_n hx hb dL_skim_2 rfl (lv_at hl 0 rfl) ?_
  refine lv_iload_n hx hb dL_skim_3 rfl (lv_at hl 1 rfl) ?_
  refine hc_i (sr_V (i := 0) (As := [.int (nI k)]) (rest := [.int 0, .ref o]) ⟨hx, hb, hml, hown, hts⟩ (zX3_skim l D a cs _ k hk _) (cwV 1 hts gL_skim_X3_skim rfl rfl rfl (by decide +kernel) ⟨Nat.le_of_ble_eq_true rfl, Nat.le_of_ble_eq_true rfl⟩) hK hN hw (by omega) sE_o kcX3 rfl hl.1 (Nat.le_of_ble_eq_true rfl) dL_skim_4 ⟨Nat.le_of_ble_eq_true rfl, Nat.le_of_ble_eq_true rfl⟩) hw hA hPo ho (fun H locs hw hPo => ?_)
  refine lv_i2l hx hb dL_skim_7 rfl ?_
  refine va_last hx hb hKo hPo hO_D hw.2.2 0 0 rfl rfl (vp_in_nI (n := 0) (by decide) (by decide)) dL_skim_8 (fun H locs hPo hDo hS => ?_)
  have hPo : va_P D vwCl (hO o cJ (vp_updL fl 0 ((σ (5 + 8 * 0 + k) 5).toInt64))) H := hPo
  refine lv_goto (tgt := 15) hx hb dL_skim_9 (by decide) ?_
  refine lv_iconst (v := 0) hx hb dL_skim_15 (by decide) ?_
  refine W.widen (k := 1) (n := 6) (Nat.le_of_ble_eq_true rfl) (Nat.le_of_ble_eq_true rfl) ?_
  exact W.iret hx hb hr (fun t ht hW => ⟨⟨0, vp_updL fl 0 ((σ (5 + 8 * 0 + k) 5).toInt64), rfl, ⟨rfl, pk_uLs⟩, by show va_P D vwCl _ t.heap; rw [ht]; exact hPo⟩, hS.F ht⟩) hS.2.2 dL_skim_16 hlocks
set_option maxHeartbeats 4000000 in
set_option maxRecDepth 100000 in
theorem zL_family_n (l : Launch) (hst : l.stackTraces = false) (D : va_G) (a : Nat → Nat) (cs : Nat → ClassId) (σ : sS) (o : Nat) (cJ : ClassId) (fl : Nat → Int64) (ho : ∀ i, i < 34 → a i ≠ o) (hc : σ 0 3 < 6) (sz : Nat) : Met l yL_family wsL_family ({ frames := 1, cells := 1, slots := 6, locals := 20 }) (va_Pc [.ref (a 0), .ref o] (hB D a cs σ o cJ fl sz)) (va_Qi (fun r (u : Nat → Int64) => r = 0 ∧ u 0 = (f_X3_familyV σ).toInt64) (fun u t => va_P D vwCl (hO o cJ u) t.heap) (hAo a o sz)) 1 6 (hAo a o sz) := by
  refine va_MetW (cc := cL_family) (maxL := 3) (ret := (some .int)) (by decide) rfl ?_
  intro p e s m args below meth c s₁ B hml hv
  obtain ⟨rfl, hB0, hXX, hPo, hKo, hNC⟩ := hv
  have hsz := hB0.1
  subst hsz
  have hx := B.exec
  have hb := B.bytes
  have hr := B.returns
  have hts := atoms_spec (ws := wsL_family) B.pre
  have hown : s.vm.findClass RL = some m.cls := findClass_of_methodNamed B.named
  have hlocks := B.notSynchronized
  have hA : ∀ q : Nat, s.heap.size ≤ q → hAo a o s.heap.size q := fun q h => Or.inl (Or.inr h)
  have hK := hB0.2.2.1
  have hN := hB0.2.2.2.2
  have hw : sH D a cs (hAo a o s.heap.size) s.heap σ s.heap [] := ⟨hB0.2.1, (sD_self (sz := s.heap.size) hB0.2.2.2.1).weaken (fun _ _ _ h => Or.inl h), va_S.rf⟩
  have hl := lv_entry ([.ref (a 0), .ref o]) (n := 3) (Nat.le_of_ble_eq_true rfl)
  rw [lg_entry_eq]
  generalize (lg_sl ([.ref (a 0), .ref o]) ++ List.replicate (3 - (lg_sl ([.ref (a 0), .ref o])).length) Slot.unset).toArray = ls at hl ⊢
  have hl : lv_has ls 3 [(0, .ref (a 0)), (1, .ref o)] := hl
  refine lv_aload_n hx hb dL_family_0 rfl (lv_at hl 1 rfl) ?_
  refine lv_iconst (v := 0) hx hb dL_family_1 (by decide) ?_
  refine lv_aload_n hx hb dL_family_2 rfl (lv_at hl 0 rfl) ?_
  refine hc_i (sr_V (i := 0) (As := []) (rest := [.int 0, .ref o]) ⟨hx, hb, hml, hown, hts⟩ (zX3_family l D a cs _ hc _) (cwV 0 hts gL_family_X3_family rfl rfl rfl (by decide +kernel) ⟨Nat.le_of_ble_eq_true rfl, Nat.le_of_ble_eq_true rfl⟩) hK hN hw (by omega) sE_o kcX3 rfl hl.1 (Nat.le_of_ble_eq_true rfl) dL_family_3 ⟨Nat.le_of_ble_eq_true rfl, Nat.le_of_ble_eq_true rfl⟩) hw hA hPo ho (fun H locs hw hPo => ?_)
  refine lv_i2l hx hb dL_family_6 rfl ?_
  refine va_last hx hb hKo hPo hO_D hw.2.2 0 0 rfl rfl (vp_in_nI (n := 0) (by decide) (by decide)) dL_family_7 (fun H locs hPo hDo hS => ?_)
  have hPo : va_P D vwCl (hO o cJ (vp_updL fl 0 ((f_X3_familyV σ).toInt64))) H := hPo
  refine lv_goto (tgt := 14) hx hb dL_family_8 (by decide) ?_
  refine lv_iconst (v := 0) hx hb dL_family_14 (by decide) ?_
  refine W.widen (k := 1) (n := 6) (Nat.le_of_ble_eq_true rfl) (Nat.le_of_ble_eq_true rfl) ?_
  exact W.iret hx hb hr (fun t ht hW => ⟨⟨0, vp_updL fl 0 ((f_X3_familyV σ).toInt64), rfl, ⟨rfl, pk_uLs⟩, by show va_P D vwCl _ t.heap; rw [ht]; exact hPo⟩, hS.F ht⟩) hS.2.2 dL_family_15 hlocks
set_option maxHeartbeats 4000000 in
set_option maxRecDepth 100000 in
theorem zL_ofPond_n (l : Launch) (hst : l.stackTraces = false) (D : va_G) (a : Nat → Nat) (cs : Nat → ClassId) (σ : sS) (o : Nat) (cJ : ClassId) (fl : Nat → Int64) (ho : ∀ i, i < 34 → a i ≠ o) (k : Nat) (hk : k < 8) (w : Nat) (hw11 : w < 11) (sz : Nat) : Met l yL_ofPond wsL_ofPond ({ frames := 4, cells := 1, slots := 6, locals := 88 }) (va_Pc [.ref (a 0), .int (nI k), .int (nI w), .ref o] (hB D a cs σ o cJ fl sz)) (va_Qi (fun r (u : Nat → Int64) => r = 0 ∧ u 0 = (f_X1_read (σ (5 + 8 * 0 + k)) w).toInt64) (fun u t => va_P D vwCl (hO o cJ u) t.heap) (hAo a o sz)) 1 6 (hAo a o sz) := by
  refine va_MetW (cc := cL_ofPond) (maxL := 5) (ret := (some .int)) (by decide) rfl ?_
  intro p e s m args below meth c s₁ B hml hv
  obtain ⟨rfl, hB0, hXX, hPo, hKo, hNC⟩ := hv
  have hsz := hB0.1
  subst hsz
  have hx := B.exec
  have hb := B.bytes
  have hr := B.returns
  have hts := atoms_spec (ws := wsL_ofPond) B.pre
  have hown : s.vm.findClass RL = some m.cls := findClass_of_methodNamed B.named
  have hlocks := B.notSynchronized
  have hA : ∀ q : Nat, s.heap.size ≤ q → hAo a o s.heap.size q := fun q h => Or.inl (Or.inr h)
  have hK := hB0.2.2.1
  have hN := hB0.2.2.2.2
  have hw : sH D a cs (hAo a o s.heap.size) s.heap σ s.heap [] := ⟨hB0.2.1, (sD_self (sz := s.heap.size) hB0.2.2.2.1).weaken (fun _ _ _ h => Or.inl h), va_S.rf⟩
  have hl := lv_entry ([.ref (a 0), .int (nI k), .int (nI w), .ref o]) (n := 5) (Nat.le_of_ble_eq_true rfl)
  rw [lg_entry_eq]
  generalize (lg_sl ([.ref (a 0), .int (nI k), .int (nI w), .ref o]) ++ List.replicate (5 - (lg_sl ([.ref (a 0), .int (nI k), .int (nI w), .ref o])).length) Slot.unset).toArray = ls at hl ⊢
  have hl : lv_has ls 5 [(0, .ref (a 0)), (1, .int (nI k)), (2, .int (nI w)), (3, .ref o)] := hl
  refine lv_aload_n hx hb dL_ofPond_0 rfl (lv_at hl 3 rfl) ?_
  refine lv_iconst (v := 0) hx hb dL_ofPond_1 (by decide) ?_
  refine lv_aload_n hx hb dL_ofPond_2 rfl (lv_at hl 0 rfl) ?_
  refine lv_iload_n hx hb dL_ofPond_3 rfl (lv_at hl 1 rfl) ?_
  refine lv_iload_n hx hb dL_ofPond_4 rfl (lv_at hl 2 rfl) ?_
  refine hc_i (sr_V (i := 0) (As := [.int (nI k), .int (nI w)]) (rest := [.int 0, .ref o]) ⟨hx, hb, hml, hown, hts⟩ (zX3_ofPond l D a cs _ k hk w hw11 _) (cwV 2 hts gL_ofPond_X3_ofPond rfl rfl rfl (by decide +kernel) ⟨Nat.le_of_ble_eq_true rfl, Nat.le_of_ble_eq_true rfl⟩) hK hN hw (by omega) sE_o kcX3 rfl hl.1 (Nat.le_of_ble_eq_true rfl) dL_ofPond_5 ⟨Nat.le_of_ble_eq_true rfl, Nat.le_of_ble_eq_true rfl⟩) hw hA hPo ho (fun H locs hw hPo => ?_)
  refine lv_i2l hx hb dL_ofPond_8 rfl ?_
  refine va_last hx hb hKo hPo hO_D hw.2.2 0 0 rfl rfl (vp_in_nI (n := 0) (by decide) (by decide)) dL_ofPond_9 (fun H locs hPo hDo hS => ?_)
  have hPo : va_P D vwCl (hO o cJ (vp_updL fl 0 ((f_X1_read (σ (5 + 8 * 0 + k)) w).toInt64))) H := hPo
  refine lv_goto (tgt := 21) hx hb dL_ofPond_10 (by decide) ?_
  refine lv_iconst (v := 0) hx hb dL_ofPond_21 (by decide) ?_
  refine W.widen (k := 1) (n := 6) (Nat.le_of_ble_eq_true rfl) (Nat.le_of_ble_eq_true rfl) ?_
  exact W.iret hx hb hr (fun t ht hW => ⟨⟨0, vp_updL fl 0 ((f_X1_read (σ (5 + 8 * 0 + k)) w).toInt64), rfl, ⟨rfl, pk_uLs⟩, by show va_P D vwCl _ t.heap; rw [ht]; exact hPo⟩, hS.F ht⟩) hS.2.2 dL_ofPond_22 hlocks
set_option maxHeartbeats 4000000 in
set_option maxRecDepth 100000 in
theorem zL_tide_n (l : Launch) (hst : l.stackTraces = false) (D : va_G) (a : Nat → Nat) (cs : Nat → ClassId) (σ : sS) (o : Nat) (cJ : ClassId) (fl : Nat → Int64) (ho : ∀ i, i < 34 → a i ≠ o) (x : Int32) (h1 : ¬ x < 0) (h2 : x ≤ 9999) (sz : Nat) : Met l yL_tide wsL_tide ({ frames := 3, cells := 1, slots := 6, locals := 66 }) (va_Pc [.ref (a 0), .int x, .ref o] (hB D a cs σ o cJ fl sz)) (va_Qi (fun r (u : Nat → Int64) => r = 0 ∧ u 0 = (f_X3_tideAt x).toInt64) (fun u t => va_P D vwCl (hO o cJ u) t.heap) (hAo a o sz)) 1 6 (hAo a o sz) := by
  refine va_MetW (cc := cL_tide) (maxL := 4) (ret := (some .int)) (by decide) rfl ?_
  intro p e s m args below meth c s₁ B hml hv
  obtain ⟨rfl, hB0, hXX, hPo, hKo, hNC⟩ := hv
  have hsz := hB0.1
  subst hsz
  have hx := B.exec
  have hb := B.bytes
  have hr := B.returns
  have hts := atoms_spec (ws := wsL_tide) B.pre
  have hown : s.vm.findClass RL = some m.cls := findClass_of_methodNamed B.named
  have hlocks := B.notSynchronized
  have hA : ∀ q : Nat, s.heap.size ≤ q → hAo a o s.heap.size q := fun q h => Or.inl (Or.inr h)
  have hK := hB0.2.2.1
  have hN := hB0.2.2.2.2
  have hw : sH D a cs (hAo a o s.heap.size) s.heap σ s.heap [] := ⟨hB0.2.1, (sD_self (sz := s.heap.size) hB0.2.2.2.1).weaken (fun _ _ _ h => Or.inl h), va_S.rf⟩
  have hl := lv_entry ([.ref (a 0), .int x, .ref o]) (n := 4) (Nat.le_of_ble_eq_true rfl)
  rw [lg_entry_eq]
  generalize (lg_sl ([.ref (a 0), .int x, .ref o]) ++ List.replicate (4 - (lg_sl ([.ref (a 0), .int x, .ref o])).length) Slot.unset).toArray = ls at hl ⊢
  have hl : lv_has ls 4 [(0, .ref (a 0)), (1, .int x), (2, .ref o)] := hl
  refine lv_aload_n hx hb dL_tide_0 rfl (lv_at hl 2 rfl) ?_
  refine lv_iconst (v := 0) hx hb dL_tide_1 (by decide) ?_
  refine lv_aload_n hx hb dL_tide_2 rfl (lv_at hl 0 rfl) ?_
  refine lv_iload_n hx hb dL_tide_3 rfl (lv_at hl 1 rfl) ?_
  refine hc_i (sr_V (i := 0) (As := [.int x]) (rest := [.int 0, .ref o]) ⟨hx, hb, hml, hown, hts⟩ (zX3_tide l D a cs _ x h1 h2 _) (cwV 1 hts gL_tide_X3_tide rfl rfl rfl (by decide +kernel) ⟨Nat.le_of_ble_eq_true rfl, Nat.le_of_ble_eq_true rfl⟩) hK hN hw (by omega) sE_o kcX3 rfl hl.1 (Nat.le_of_ble_eq_true rfl) dL_tide_4 ⟨Nat.le_of_ble_eq_true rfl, Nat.le_of_ble_eq_true rfl⟩) hw hA hPo ho (fun H locs hw hPo => ?_)
  refine lv_i2l hx hb dL_tide_7 rfl ?_
  refine va_last hx hb hKo hPo hO_D hw.2.2 0 0 rfl rfl (vp_in_nI (n := 0) (by decide) (by decide)) dL_tide_8 (fun H locs hPo hDo hS => ?_)
  have hPo : va_P D vwCl (hO o cJ (vp_updL fl 0 ((f_X3_tideAt x).toInt64))) H := hPo
  refine lv_goto (tgt := 15) hx hb dL_tide_9 (by decide) ?_
  refine lv_iconst (v := 0) hx hb dL_tide_15 (by decide) ?_
  refine W.widen (k := 1) (n := 6) (Nat.le_of_ble_eq_true rfl) (Nat.le_of_ble_eq_true rfl) ?_
  exact W.iret hx hb hr (fun t ht hW => ⟨⟨0, vp_updL fl 0 ((f_X3_tideAt x).toInt64), rfl, ⟨rfl, pk_uLs⟩, by show va_P D vwCl _ t.heap; rw [ht]; exact hPo⟩, hS.F ht⟩) hS.2.2 dL_tide_16 hlocks
set_option maxHeartbeats 4000000 in
set_option maxRecDepth 100000 in
theorem zL_many_n (l : Launch) (hst : l.stackTraces = false) (D : va_G) (a : Nat → Nat) (cs : Nat → ClassId) (σ : sS) (o : Nat) (cJ : ClassId) (fl : Nat → Int64) (ho : ∀ i, i < 34 → a i ≠ o) (fc : Nat) (hfc : fc ≤ 6) (hc : σ 0 3 = nI fc) (k : Nat) (hk : k < 18) (sz : Nat) : Met l yL_many wsL_many ({ frames := 5, cells := 1, slots := 6, locals := 111 }) (va_Pc [.ref (a 0), .int (nI k), .ref o] (hB D a cs σ o cJ fl sz)) (va_Qi (fun r (u : Nat → Int64) => r = 0 ∧ u 0 = (f_X3_many σ fc k).toInt64) (fun u t => va_P D vwCl (hO o cJ u) t.heap) (hAo a o sz)) 1 6 (hAo a o sz) := by
  refine va_MetW (cc := cL_many) (maxL := 4) (ret := (some .int)) (by decide) rfl ?_
  intro p e s m args below meth c s₁ B hml hv
  obtain ⟨rfl, hB0, hXX, hPo, hKo, hNC⟩ := hv
  have hsz := hB0.1
  subst hsz
  have hx := B.exec
  have hb := B.bytes
  have hr := B.returns
  have hts := atoms_spec (ws := wsL_many) B.pre
  have hown : s.vm.findClass RL = some m.cls := findClass_of_methodNamed B.named
  have hlocks := B.notSynchronized
  have hA : ∀ q : Nat, s.heap.size ≤ q → hAo a o s.heap.size q := fun q h => Or.inl (Or.inr h)
  have hK := hB0.2.2.1
  have hN := hB0.2.2.2.2
  have hw : sH D a cs (hAo a o s.heap.size) s.heap σ s.heap [] := ⟨hB0.2.1, (sD_self (sz := s.heap.size) hB0.2.2.2.1).weaken (fun _ _ _ h => Or.inl h), va_S.rf⟩
  have hl := lv_entry ([.ref (a 0), .int (nI k), .ref o]) (n := 4) (Nat.le_of_ble_eq_true rfl)
  rw [lg_entry_eq]
  generalize (lg_sl ([.ref (a 0), .int (nI k), .ref o]) ++ List.replicate (4 - (lg_sl ([.ref (a 0), .int (nI k), .ref o])).length) Slot.unset).toArray = ls at hl ⊢
  have hl : lv_has ls 4 [(0, .ref (a 0)), (1, .int (nI k)), (2, .ref o)] := hl
  refine lv_aload_n hx hb dL_many_0 rfl (lv_at hl 2 rfl) ?_
  refine lv_iconst (v := 0) hx hb dL_many_1 (by decide) ?_
  refine lv_aload_n hx hb dL_many_2 rfl (lv_at hl 0 rfl) ?_
  refine lv_iload_n hx hb dL_many_3 rfl (lv_at hl 1 rfl) ?_
  refine hc_i (sr_V (i := 0) (As := [.int (nI k)]) (rest := [.int 0, .ref o]) ⟨hx, hb, hml, hown, hts⟩ (zX3_many l D a cs _ fc hfc hc k hk _) (cwV 1 hts gL_many_X3_many rfl rfl rfl (by decide +kernel) ⟨Nat.le_of_ble_eq_true rfl, Nat.le_of_ble_eq_true rfl⟩) hK hN hw (by omega) sE_o kcX3 rfl hl.1 (Nat.le_of_ble_eq_true rfl) dL_many_4 ⟨Nat.le_of_ble_eq_true rfl, Nat.le_of_ble_eq_true rfl⟩) hw hA hPo ho (fun H locs hw hPo => ?_)
  refine lv_i2l hx hb dL_many_7 rfl ?_
  refine va_last hx hb hKo hPo hO_D hw.2.2 0 0 rfl rfl (vp_in_nI (n := 0) (by decide) (by decide)) dL_many_8 (fun H locs hPo hDo hS => ?_)
  have hPo : va_P D vwCl (hO o cJ (vp_updL fl 0 ((f_X3_many σ fc k).toInt64))) H := hPo
  refine lv_goto (tgt := 15) hx hb dL_many_9 (by decide) ?_
  refine lv_iconst (v := 0) hx hb dL_many_15 (by decide) ?_
  refine W.widen (k := 1) (n := 6) (Nat.le_of_ble_eq_true rfl) (Nat.le_of_ble_eq_true rfl) ?_
  exact W.iret hx hb hr (fun t ht hW => ⟨⟨0, vp_updL fl 0 ((f_X3_many σ fc k).toInt64), rfl, ⟨rfl, pk_uLs⟩, by show va_P D vwCl _ t.heap; rw [ht]; exact hPo⟩, hS.F ht⟩) hS.2.2 dL_many_16 hlocks
set_option maxHeartbeats 4000000 in
set_option maxRecDepth 100000 in
theorem zL_crustIn_n (l : Launch) (hst : l.stackTraces = false) (D : va_G) (a : Nat → Nat) (cs : Nat → ClassId) (σ : sS) (o : Nat) (cJ : ClassId) (fl : Nat → Int64) (ho : ∀ i, i < 34 → a i ≠ o) (hz : sZ σ) (q : Nat) (hq : q < 3) (x y : Int32) (hx0 : ¬ x < 0) (hx9 : x ≤ 9) (hy0 : ¬ y < 0) (hy9 : y ≤ 9) (sz : Nat) : Met l yL_crustIn wsL_crustIn ({ frames := 5, cells := 1, slots := 6, locals := 123 }) (va_Pc [.ref (a 0), .int (nI (5 + q)), .int x, .int y, .ref o] (hB D a cs σ o cJ fl sz)) (va_Qi (fun r (u : Nat → Int64) => r = 0 ∧ u 0 = (f_X3_crustInV σ q x y).toInt64) (fun u t => va_P D vwCl (hO o cJ u) t.heap) (hAo a o sz)) 1 6 (hAo a o sz) := by
  refine va_MetW (cc := cL_crustIn) (maxL := 6) (ret := (some .int)) (by decide) rfl ?_
  intro p e s m args below meth c s₁ B hml hv
  obtain ⟨rfl, hB0, hXX, hPo, hKo, hNC⟩ := hv
  have hsz := hB0.1
  subst hsz
  have hx := B.exec
  have hb := B.bytes
  have hr := B.returns
  have hts := atoms_spec (ws := wsL_crustIn) B.pre
  have hown : s.vm.findClass RL = some m.cls := findClass_of_methodNamed B.named
  have hlocks := B.notSynchronized
  have hA : ∀ q : Nat, s.heap.size ≤ q → hAo a o s.heap.size q := fun q h => Or.inl (Or.inr h)
  have hK := hB0.2.2.1
  have hN := hB0.2.2.2.2
  have hw : sH D a cs (hAo a o s.heap.size) s.heap σ s.heap [] := ⟨hB0.2.1, (sD_self (sz := s.heap.size) hB0.2.2.2.1).weaken (fun _ _ _ h => Or.inl h), va_S.rf⟩
  have hl := lv_entry ([.ref (a 0), .int (nI (5 + q)), .int x, .int y, .ref o]) (n := 6) (Nat.le_of_ble_eq_true rfl)
  rw [lg_entry_eq]
  generalize (lg_sl ([.ref (a 0), .int (nI (5 + q)), .int x, .int y, .ref o]) ++ List.replicate (6 - (lg_sl ([.ref (a 0), .int (nI (5 + q)), .int x, .int y, .ref o])).length) Slot.unset).toArray = ls at hl ⊢
  have hl : lv_has ls 6 [(0, .ref (a 0)), (1, .int (nI (5 + q))), (2, .int x), (3, .int y), (4, .ref o)] := hl
  refine lv_aload hx hb dL_crustIn_0 (lv_at hl 4 rfl) ?_
  refine lv_iconst (v := 0) hx hb dL_crustIn_2 (by decide) ?_
  refine lv_aload_n hx hb dL_crustIn_3 rfl (lv_at hl 0 rfl) ?_
  refine lv_iload_n hx hb dL_crustIn_4 rfl (lv_at hl 1 rfl) ?_
  refine lv_iload_n hx hb dL_crustIn_5 rfl (lv_at hl 2 rfl) ?_
  refine lv_iload_n hx hb dL_crustIn_6 rfl (lv_at hl 3 rfl) ?_
  refine hc_i (sr_V (i := 0) (As := [.int (nI (5 + q)), .int x, .int y]) (rest := [.int 0, .ref o]) ⟨hx, hb, hml, hown, hts⟩ (zX3_crustIn l D a cs _ hz q hq x y hx0 hx9 hy0 hy9 _) (cwV 3 hts gL_crustIn_X3_crustIn rfl rfl rfl (by decide +kernel) ⟨Nat.le_of_ble_eq_true rfl, Nat.le_of_ble_eq_true rfl⟩) hK hN hw (by omega) sE_o kcX3 rfl hl.1 (Nat.le_of_ble_eq_true rfl) dL_crustIn_7 ⟨Nat.le_of_ble_eq_true rfl, Nat.le_of_ble_eq_true rfl⟩) hw hA hPo ho (fun H locs hw hPo => ?_)
  refine lv_i2l hx hb dL_crustIn_10 rfl ?_
  refine va_last hx hb hKo hPo hO_D hw.2.2 0 0 rfl rfl (vp_in_nI (n := 0) (by decide) (by decide)) dL_crustIn_11 (fun H locs hPo hDo hS => ?_)
  have hPo : va_P D vwCl (hO o cJ (vp_updL fl 0 ((f_X3_crustInV σ q x y).toInt64))) H := hPo
  refine lv_goto (tgt := 23) hx hb dL_crustIn_12 (by decide) ?_
  refine lv_iconst (v := 0) hx hb dL_crustIn_23 (by decide) ?_
  refine W.widen (k := 1) (n := 6) (Nat.le_of_ble_eq_true rfl) (Nat.le_of_ble_eq_true rfl) ?_
  exact W.iret hx hb hr (fun t ht hW => ⟨⟨0, vp_updL fl 0 ((f_X3_crustInV σ q x y).toInt64), rfl, ⟨rfl, pk_uLs⟩, by show va_P D vwCl _ t.heap; rw [ht]; exact hPo⟩, hS.F ht⟩) hS.2.2 dL_crustIn_24 hlocks
set_option maxHeartbeats 4000000 in
set_option maxRecDepth 100000 in
theorem zL_bestGates_n (l : Launch) (hst : l.stackTraces = false) (D : va_G) (a : Nat → Nat) (cs : Nat → ClassId) (σ : sS) (o : Nat) (cJ : ClassId) (fl : Nat → Int64) (ho : ∀ i, i < 34 → a i ≠ o) (hz : sZ σ) (d : Nat) (hd : 1 ≤ d ∧ d ≤ 9) (x y : Int32) (hx0 : ¬ x < 0) (hx9 : x ≤ 9) (hy0 : ¬ y < 0) (hy9 : y ≤ 9) (sz : Nat) : Met l yL_bestGates wsL_bestGates ({ frames := 6, cells := 1, slots := 6, locals := 151 }) (va_Pc [.ref (a 0), .int (nI d), .int x, .int y, .ref o] (hB D a cs σ o cJ fl sz)) (va_Qi (fun r (u : Nat → Int64) => r = 0 ∧ u 0 = (f_X3_bestGates σ d x y).toInt64) (fun u t => va_P D vwCl (hO o cJ u) t.heap) (hAo a o sz)) 1 6 (hAo a o sz) := by
  refine va_MetW (cc := cL_bestGates) (maxL := 6) (ret := (some .int)) (by decide) rfl ?_
  intro p e s m args below meth c s₁ B hml hv
  obtain ⟨rfl, hB0, hXX, hPo, hKo, hNC⟩ := hv
  have hsz := hB0.1
  subst hsz
  have hx := B.exec
  have hb := B.bytes
  have hr := B.returns
  have hts := atoms_spec (ws := wsL_bestGates) B.pre
  have hown : s.vm.findClass RL = some m.cls := findClass_of_methodNamed B.named
  have hlocks := B.notSynchronized
  have hA : ∀ q : Nat, s.heap.size ≤ q → hAo a o s.heap.size q := fun q h => Or.inl (Or.inr h)
  have hK := hB0.2.2.1
  have hN := hB0.2.2.2.2
  have hw : sH D a cs (hAo a o s.heap.size) s.heap σ s.heap [] := ⟨hB0.2.1, (sD_self (sz := s.heap.size) hB0.2.2.2.1).weaken (fun _ _ _ h => Or.inl h), va_S.rf⟩
  have hl := lv_entry ([.ref (a 0), .int (nI d), .int x, .int y, .ref o]) (n := 6) (Nat.le_of_ble_eq_true rfl)
  rw [lg_entry_eq]
  generalize (lg_sl ([.ref (a 0), .int (nI d), .int x, .int y, .ref o]) ++ List.replicate (6 - (lg_sl ([.ref (a 0), .int (nI d), .int x, .int y, .ref o])).length) Slot.unset).toArray = ls at hl ⊢
  have hl : lv_has ls 6 [(0, .ref (a 0)), (1, .int (nI d)), (2, .int x), (3, .int y), (4, .ref o)] := hl
  refine lv_aload hx hb dL_bestGates_0 (lv_at hl 4 rfl) ?_
  refine lv_iconst (v := 0) hx hb dL_bestGates_2 (by decide) ?_
  refine lv_aload_n hx hb dL_bestGates_3 rfl (lv_at hl 0 rfl) ?_
  refine lv_iload_n hx hb dL_bestGates_4 rfl (lv_at hl 1 rfl) ?_
  refine lv_iload_n hx hb dL_bestGates_5 rfl (lv_at hl 2 rfl) ?_
  refine lv_iload_n hx hb dL_bestGates_6 rfl (lv_at hl 3 rfl) ?_
  refine hc_i (sr_V (i := 0) (As := [.int (nI d), .int x, .int y]) (rest := [.int 0, .ref o]) ⟨hx, hb, hml, hown, hts⟩ (zX3_bestGates l D a cs _ hz d hd x y hx0 hx9 hy0 hy9 _) (cwV 3 hts gL_bestGates_X3_bestGates rfl rfl rfl (by decide +kernel) ⟨Nat.le_of_ble_eq_true rfl, Nat.le_of_ble_eq_true rfl⟩) hK hN hw (by omega) sE_o kcX3 rfl hl.1 (Nat.le_of_ble_eq_true rfl) dL_bestGates_7 ⟨Nat.le_of_ble_eq_true rfl, Nat.le_of_ble_eq_true rfl⟩) hw hA hPo ho (fun H locs hw hPo => ?_)
  refine lv_i2l hx hb dL_bestGates_10 rfl ?_
  refine va_last hx hb hKo hPo hO_D hw.2.2 0 0 rfl rfl (vp_in_nI (n := 0) (by decide) (by decide)) dL_bestGates_11 (fun H locs hPo hDo hS => ?_)
  have hPo : va_P D vwCl (hO o cJ (vp_updL fl 0 ((f_X3_bestGates σ d x y).toInt64))) H := hPo
  refine lv_goto (tgt := 19) hx hb dL_bestGates_12 (by decide) ?_
  refine lv_iconst (v := 0) hx hb dL_bestGates_19 (by decide) ?_
  refine W.widen (k := 1) (n := 6) (Nat.le_of_ble_eq_true rfl) (Nat.le_of_ble_eq_true rfl) ?_
  exact W.iret hx hb hr (fun t ht hW => ⟨⟨0, vp_updL fl 0 ((f_X3_bestGates σ d x y).toInt64), rfl, ⟨rfl, pk_uLs⟩, by show va_P D vwCl _ t.heap; rw [ht]; exact hPo⟩, hS.F ht⟩) hS.2.2 dL_bestGates_20 hlocks
set_option maxHeartbeats 4000000 in
set_option maxRecDepth 100000 in
theorem zL_tideOn_n (l : Launch) (hst : l.stackTraces = false) (D : va_G) (a : Nat → Nat) (cs : Nat → ClassId) (σ : sS) (o : Nat) (cJ : ClassId) (fl : Nat → Int64) (ho : ∀ i, i < 34 → a i ≠ o) (x h : Int32) (hx0 : ¬ x < 0) (hx20 : x ≤ 20) (sz : Nat) : Met l yL_tideOn wsL_tideOn ({ frames := 3, cells := 1, slots := 6, locals := 69 }) (va_Pc [.ref (a 0), .int x, .int h, .ref o] (hB D a cs σ o cJ fl sz)) (va_Qi (fun r (u : Nat → Int64) => r = 0 ∧ u 0 = (f_X3_tideOn σ x h).toInt64) (fun u t => va_P D vwCl (hO o cJ u) t.heap) (hAo a o sz)) 1 6 (hAo a o sz) := by
  refine va_MetW (cc := cL_tideOn) (maxL := 5) (ret := (some .int)) (by decide) rfl ?_
  intro p e s m args below meth c s₁ B hml hv
  obtain ⟨rfl, hB0, hXX, hPo, hKo, hNC⟩ := hv
  have hsz := hB0.1
  subst hsz
  have hx := B.exec
  have hb := B.bytes
  have hr := B.returns
  have hts := atoms_spec (ws := wsL_tideOn) B.pre
  have hown : s.vm.findClass RL = some m.cls := findClass_of_methodNamed B.named
  have hlocks := B.notSynchronized
  have hA : ∀ q : Nat, s.heap.size ≤ q → hAo a o s.heap.size q := fun q h => Or.inl (Or.inr h)
  have hK := hB0.2.2.1
  have hN := hB0.2.2.2.2
  have hw : sH D a cs (hAo a o s.heap.size) s.heap σ s.heap [] := ⟨hB0.2.1, (sD_self (sz := s.heap.size) hB0.2.2.2.1).weaken (fun _ _ _ h => Or.inl h), va_S.rf⟩
  have hl := lv_entry ([.ref (a 0), .int x, .int h, .ref o]) (n := 5) (Nat.le_of_ble_eq_true rfl)
  rw [lg_entry_eq]
  generalize (lg_sl ([.ref (a 0), .int x, .int h, .ref o]) ++ List.replicate (5 - (lg_sl ([.ref (a 0), .int x, .int h, .ref o])).length) Slot.unset).toArray = ls at hl ⊢
  have hl : lv_has ls 5 [(0, .ref (a 0)), (1, .int x), (2, .int h), (3, .ref o)] := hl
  refine lv_aload_n hx hb dL_tideOn_0 rfl (lv_at hl 3 rfl) ?_
  refine lv_iconst (v := 0) hx hb dL_tideOn_1 (by decide) ?_
  refine lv_aload_n hx hb dL_tideOn_2 rfl (lv_at hl 0 rfl) ?_
  refine lv_iload_n hx hb dL_tideOn_3 rfl (lv_at hl 1 rfl) ?_
  refine lv_iload_n hx hb dL_tideOn_4 rfl (lv_at hl 2 rfl) ?_
  refine hc_i (sr_V (i := 0) (As := [.int x, .int h]) (rest := [.int 0, .ref o]) ⟨hx, hb, hml, hown, hts⟩ (zX3_tideOn l D a cs _ x h hx0 hx20 _) (cwV 2 hts gL_tideOn_X3_tideOn rfl rfl rfl (by decide +kernel) ⟨Nat.le_of_ble_eq_true rfl, Nat.le_of_ble_eq_true rfl⟩) hK hN hw (by omega) sE_o kcX3 rfl hl.1 (Nat.le_of_ble_eq_true rfl) dL_tideOn_5 ⟨Nat.le_of_ble_eq_true rfl, Nat.le_of_ble_eq_true rfl⟩) hw hA hPo ho (fun H locs hw hPo => ?_)
  refine lv_i2l hx hb dL_tideOn_8 rfl ?_
  refine va_last hx hb hKo hPo hO_D hw.2.2 0 0 rfl rfl (vp_in_nI (n := 0) (by decide) (by decide)) dL_tideOn_9 (fun H locs hPo hDo hS => ?_)
  have hPo : va_P D vwCl (hO o cJ (vp_updL fl 0 ((f_X3_tideOn σ x h).toInt64))) H := hPo
  refine lv_goto (tgt := 17) hx hb dL_tideOn_10 (by decide) ?_
  refine lv_iconst (v := 0) hx hb dL_tideOn_17 (by decide) ?_
  refine W.widen (k := 1) (n := 6) (Nat.le_of_ble_eq_true rfl) (Nat.le_of_ble_eq_true rfl) ?_
  exact W.iret hx hb hr (fun t ht hW => ⟨⟨0, vp_updL fl 0 ((f_X3_tideOn σ x h).toInt64), rfl, ⟨rfl, pk_uLs⟩, by show va_P D vwCl _ t.heap; rw [ht]; exact hPo⟩, hS.F ht⟩) hS.2.2 dL_tideOn_18 hlocks
