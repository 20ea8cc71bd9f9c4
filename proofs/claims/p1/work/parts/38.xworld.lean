/-! The class throws: what that needs of the start, and its contracts. -/
abbrev xIO : String := "java/lang/IndexOutOfBoundsException"
abbrev xIA : String := "java/lang/IllegalArgumentException"
abbrev xIS : String := "java/lang/IllegalStateException"
abbrev xNm : List String := ["java/lang/RuntimeException", "java/lang/Exception"]
def sXB : List Cond := (vx_atS RX3 315 xIO xNm).filter (fun w => !goodWord w) ++ (vx_atS RX3 34 xIA xNm).filter (fun w => !goodWord w) ++ (vx_atS RX3 45 xIS xNm).filter (fun w => !goodWord w)
theorem sXB_face : ∀ w ∈ sXB, (w.faceAtom && w.onTables) = true := by decide +kernel
theorem sXB_IO : ∀ w ∈ (vx_atS RX3 315 xIO xNm).filter (fun w => !goodWord w), w ∈ sXB := fun _ h => List.mem_append_left _ (List.mem_append_left _ h)
theorem sXB_IA : ∀ w ∈ (vx_atS RX3 34 xIA xNm).filter (fun w => !goodWord w), w ∈ sXB := fun _ h => List.mem_append_left _ (List.mem_append_right _ h)
theorem sXB_IS : ∀ w ∈ (vx_atS RX3 45 xIS xNm).filter (fun w => !goodWord w), w ∈ sXB := fun _ h => List.mem_append_right _ h
theorem sX_okIO : ∀ w ∈ Cond.classLink RX3 311 xIO :: Cond.initialized xIO :: vx_atS RX3 315 xIO xNm, vx_ot w = true := by decide +kernel
theorem sX_okIA : ∀ w ∈ Cond.classLink RX3 30 xIA :: Cond.initialized xIA :: vx_atS RX3 34 xIA xNm, vx_ot w = true := by decide +kernel
theorem sX_okIS : ∀ w ∈ Cond.classLink RX3 41 xIS :: Cond.initialized xIS :: vx_atS RX3 45 xIS xNm, vx_ot w = true := by decide +kernel
/-- the texts of the class's exceptions, by their places -/
def sXT : List (Nat × String) := [(32, "area is not 1 to 9"), (43, "DAY is above 0"), (65, "days is not 1 to 30"), (71, "rain is not 0 to 40"), (73, "DAY would be above 5000"), (92, "the POND has no BRINE"), (98, "the TIDE is above 4"), (109, "both PONDS are the same"), (111, "much is below 1"), (113, "there is less BRINE"), (132, "there are 6 FAMILIES"), (137, "twelfths is not 0 to 12"), (146, "all RIGHTS in the PAN would be more than 12"), (152, "no SALT in the CRUST, or harvested this DAY"), (188, "SUN, WIND or STRENGTH do not let it"), (190, "the PAN was harvested this DAY"), (198, "the HEAP has no SALT"), (206, "salt is below 1"), (208, "price is not 1 to 99"), (210, "there is less SALT"), (221, "what is not 0 to 10"), (226, "what is not 0 to 5"), (229, "day is not 0 to 9999"), (252, "what is not 0 to 17"), (261, "days is not 1 to 9"), (269, "tide is not 0 to 20"), (313, "not a POND of 0 to 7"), (316, "not a PAN of 5 to 7"), (318, "no such FAMILY"), (320, "sun is not 0 to 9"), (322, "wind is not 0 to 9")]
def sXf (A : Nat → Prop) (U : State) (H : Heap) : Prop := (vx_Zq Bundle.tN "UNASSIGNED_STACK" Bundle.steD A U H ∧ vx_Zq Bundle.tN "SUPPRESSED_SENTINEL" Bundle.listD A U H) ∧ (∀ w ∈ sXB, w.before #[] U = true) ∧ ∀ q ∈ sXT, ∃ sa : Nat, vk_R RX3 q.1 q.2 sa U
theorem sXf.same {A : Nat → Prop} {u U : State} {H : Heap} (hv : u.vm = U.vm) (h : sXf A u H) : sXf A U H := by
  obtain ⟨⟨h1, h2⟩, h3, h4⟩ := h
  have hal : u.vm.Alike U.vm := by rw [hv]; exact Vm.Alike.refl U.vm
  refine ⟨⟨h1.moved hal, h2.moved hal⟩, fun w hw => ?_, fun q hq => ?_⟩
  · have hf := sXB_face w hw
    simp only [Bool.and_eq_true] at hf
    exact va_tabs hf.2 hv (h3 w hw)
  · obtain ⟨sa, h⟩ := h4 q hq
    exact ⟨sa, vk_R.same hv.symm h⟩
theorem sXf.warm {A : Nat → Prop} {s U : State} {H : Heap} (hW : s.WarmedH U.vm) (h : sXf A s H) : sXf A U H := by
  obtain ⟨⟨h1, h2⟩, h3, h4⟩ := h
  refine ⟨⟨h1.moved hW.alike, h2.moved hW.alike⟩, fun w hw => ?_, fun q hq => ?_⟩
  · have hf := sXB_face w hw
    simp only [Bool.and_eq_true] at hf
    exact va_tabs hf.2 (rfl : (s.setVm U.vm).vm = U.vm) (Cond.faceAtom_setVm hW.alike w hf.1 (h3 w hw))
  · obtain ⟨sa, h⟩ := h4 q hq
    exact ⟨sa, vk_R.warm hW h⟩
theorem sXf.kept {A : Nat → Prop} {U : State} {H H1 : Heap} (h : sXf A U H) (hq : ∀ a : Nat, a < H.size → ¬ A a → H1[a]? = H[a]?) : sXf A U H1 := ⟨⟨h.1.1.kept hq, h.1.2.kept hq⟩, h.2⟩
theorem sXf.narrow {A B : Nat → Prop} {U : State} {H : Heap} (h : sXf A U H) (hAB : ∀ q, B q → A q) : sXf B U H := ⟨⟨h.1.1.narrow hAB, h.1.2.narrow hAB⟩, h.2⟩
theorem sX_words {U : State} {A : Nat → Prop} {H : Heap} (h : sXf A U H) (args : Array Value) : ∀ w ∈ sXB, w.before args U = true := fun w hw => by
  have hf := sXB_face w hw
  simp only [Bool.and_eq_true] at hf
  exact va_tabs hf.2 rfl (h.2.1 w hw)
def sBX (D : va_G) (a : Nat → Nat) (cs : Nat → ClassId) (σ : sS) (sz : Nat) (U : State) : Prop := sB D a cs σ sz U ∧ sXf (sA a sz) U U.heap
theorem sBX_blind {D : va_G} {a : Nat → Nat} {cs : Nat → ClassId} {σ : sS} {sz : Nat} {av : List Value} : FrameBlind (va_Pc av (sBX D a cs σ sz)) := fun v U g mk q => by
  obtain ⟨q0, q1, qX⟩ := q
  exact ⟨q0, (sB_blind (av := av) v U g mk ⟨q0, q1⟩).2, sXf.same (u := U) (U := U.calling g mk v) rfl qX⟩
/-- it throws, nothing else -/
def sMx (l : Launch) (y : MethodName) (ws : List Cond) (rm : Room) (D : va_G) (a : Nat → Nat) (cs : Nat → ClassId) (av : List Value) (σ : sS) (E : String) : Prop := ∀ sz : Nat, vx_Met l y ws rm (va_Pc av (sBX D a cs σ sz)) (fun _ _ _ _ => False) (vx_X (fun (_ : Unit) => True) (fun E' _ _ => E' = E) (sA a sz)) 1 6 (sA a sz)
section SX
variable {p : Program} {l : Launch} {e : Env} {R : Room} {s : State} {m : MethodId} {args : Array Value} {below : List Frame} {meth : Method} {c : Code} {H : Heap} {locs : List Loc} {cells slots : Nat}
variable {cc : ByteArray} {pc : Nat} {ls : Array Slot} {rest : List Value} {D : va_G} {a : Nat → Nat} {cs : Nat → ClassId} {σ : sS}
theorem sx_xc {t : State} {E : String} (hw : sH D a cs (sA a s.heap.size) s.heap σ H locs) (h1 : H.size ≤ t.heap.size) (h2 : ∀ q : Nat, q < H.size → t.heap[q]? = H[q]?) : vx_X (fun (_ : Unit) => True) (fun E' _ _ => E' = E) (sA a s.heap.size) E s t :=
  ⟨(), trivial, rfl, Nat.le_trans hw.2.2.1 h1, fun q hq hA => (h2 q (Nat.lt_of_lt_of_le hq hw.2.2.1)).trans (hw.2.2.2.1 q hq hA)⟩
theorem sx_throwS {cls text : String} {ik is ic : Nat} {Qc : Array Value → State → Outcome → State → Prop} {Ts : List Cond} (hx : p.tables.exec = Jvm.exec) (hb : c.code = cc) (hst : l.stackTraces = false) (hown : s.vm.findClass RX3 = some m.cls) (hcls : Bundle.fit cls = true) (hts : ∀ w ∈ Ts, w.before args s = true) (hk : Cond.classLink RX3 ik cls ∈ Ts) (hini : Cond.initialized cls ∈ Ts) (htx : (is, text) ∈ sXT) (hg : ∀ w ∈ (vx_atS RX3 ic cls xNm).filter goodWord, w ∈ Ts) (hB : ∀ w ∈ (vx_atS RX3 ic cls xNm).filter (fun w => !goodWord w), w ∈ sXB) (hok : ∀ w ∈ Cond.classLink RX3 ik cls :: Cond.initialized cls :: vx_atS RX3 ic cls xNm, vx_ot w = true)
    (hX : sXf (sA a s.heap.size) s s.heap) (hw : sH D a cs (sA a s.heap.size) s.heap σ H locs) (hsize : ls.size = c.maxLocals) (d0 : decode cc pc = .ok (.new ik, 3)) (d3 : decode cc (pc + 3) = .ok (.dup, 1)) (d4 : decode cc (pc + 4) = .ok (.ldc is, 2)) (d6 : decode cc (pc + 6) = .ok (.invokespecial ic, 3)) (d9 : decode cc (pc + 9) = .ok (.athrow, 1))
    (hnx : ∀ x ∈ c.exceptionTable.toList, False) (hRf : 5 < R.frames) (hRl : (rest.map fun v => v.category).sum + 82 ≤ R.locals) (hRc : cells + 1 ≤ R.cells) (hRs : slots + 6 ≤ R.slots) (hlocks : meth.locks = false) (hc : cells + 1 ≤ 1) (hs : slots + 6 ≤ 6) :
    W p l e R s m args below meth c H locs cells slots (vx_MQ below Qc (vx_X (fun (_ : Unit) => True) (fun E' _ _ => E' = cls) (sA a s.heap.size)) args s 1 6 (sA a s.heap.size)) (F0 m pc ls rest) := by
  obtain ⟨sa, hstr⟩ := hX.2.2 _ htx
  exact vx_throwS (names := xNm) hx hb hst hown hcls (by decide +kernel) (hts _ hk) (hts _ hini) hstr (vx_hat (fun w h => hts w (hg w h)) hB (sX_words hX args)) hok hX.1.1 hX.1.2 hw.2.2 hsize d0 d3 d4 d6 d9 (fun x hx => (hnx x hx).elim) hRf hRl hRc hRs hlocks (fun t _ h1 h2 => sx_xc hw h1 h2) hw.2.2.2.2 hc hs
theorem sx_throwW {cls text : String} {ik is ic : Nat} {Qc : Array Value → State → Outcome → State → Prop} {Ts : List Cond} (hx : p.tables.exec = Jvm.exec) (hb : c.code = cc) (hst : l.stackTraces = false) (hown : s.vm.findClass RX3 = some m.cls) (hcls : Bundle.fit cls = true) (hts : ∀ w ∈ Ts, w.before args s = true) (hk : Cond.classLink RX3 ik cls ∈ Ts) (hini : Cond.initialized cls ∈ Ts) (htx : (is, text) ∈ sXT) (hg : ∀ w ∈ (vx_atS RX3 ic cls xNm).filter goodWord, w ∈ Ts) (hB : ∀ w ∈ (vx_atS RX3 ic cls xNm).filter (fun w => !goodWord w), w ∈ sXB) (hok : ∀ w ∈ Cond.classLink RX3 ik cls :: Cond.initialized cls :: vx_atS RX3 ic cls xNm, vx_ot w = true)
    (hX : sXf (sA a s.heap.size) s s.heap) (hw : sH D a cs (sA a s.heap.size) s.heap σ H locs) (hsize : ls.size = c.maxLocals) (d0 : decode cc pc = .ok (.new ik, 3)) (d3 : decode cc (pc + 3) = .ok (.dup, 1)) (d4 : decode cc (pc + 4) = .ok (.ldc_w is, 3)) (d7 : decode cc (pc + 7) = .ok (.invokespecial ic, 3)) (d10 : decode cc (pc + 10) = .ok (.athrow, 1))
    (hnx : ∀ x ∈ c.exceptionTable.toList, False) (hRf : 5 < R.frames) (hRl : (rest.map fun v => v.category).sum + 82 ≤ R.locals) (hRc : cells + 1 ≤ R.cells) (hRs : slots + 6 ≤ R.slots) (hlocks : meth.locks = false) (hc : cells + 1 ≤ 1) (hs : slots + 6 ≤ 6) :
    W p l e R s m args below meth c H locs cells slots (vx_MQ below Qc (vx_X (fun (_ : Unit) => True) (fun E' _ _ => E' = cls) (sA a s.heap.size)) args s 1 6 (sA a s.heap.size)) (F0 m pc ls rest) := by
  obtain ⟨sa, hstr⟩ := hX.2.2 _ htx
  exact vx_throwSW (names := xNm) hx hb hst hown hcls (by decide +kernel) (hts _ hk) (hts _ hini) hstr (vx_hat (fun w h => hts w (hg w h)) hB (sX_words hX args)) hok hX.1.1 hX.1.2 hw.2.2 hsize d0 d3 d4 d7 d10 (fun x hx => (hnx x hx).elim) hRf hRl hRc hRs hlocks (fun t _ h1 h2 => sx_xc hw h1 h2) hw.2.2.2.2 hc hs
/-- a callee threw: it goes on to the caller -/
theorem sx_pass {own : String} {y : MethodName} {bytes : ByteArray} {maxL nL n index : Nat} {ret : Option FieldType} {ws : List Cond} {rm : Room} {Ts : List Cond} {As : List Value} {E : String} {Qc : Array Value → State → Outcome → State → Prop}
    (S : CallFix p m c cc nL s args Ts own) (hM : sMx l y ws rm D a cs (.ref (a 0) :: As) σ E) (cw : CallW R s args own RX3 index y bytes maxL ret ws rm 1 6 n) (hK : va_K D vwCl (sT cs) s) (hN : sN s) (hX : sXf (sA a s.heap.size) s s.heap) (hw : sH D a cs (sA a s.heap.size) s.heap σ H locs)
    (hn : As.length = n) (hsize : ls.size = nL) (hW : (rest.map fun v => v.category).sum ≤ 8) (hdg : decode cc pc = .ok (.invokevirtual index, 3)) (hf : cells + 1 ≤ R.cells ∧ slots + 6 ≤ R.slots) (hnx : ∀ x ∈ c.exceptionTable.toList, False) (hlocks : meth.locks = false) (hc : cells + 1 ≤ 1) (hs : slots + 6 ≤ 6) :
    W p l e R s m args below meth c H locs cells slots (vx_MQ below Qc (vx_X (fun (_ : Unit) => True) (fun E' _ _ => E' = E) (sA a s.heap.size)) args s 1 6 (sA a s.heap.size)) (F0 m pc ls (As.reverse ++ .ref (a 0) :: rest)) := by
  have hA : ∀ q, s.heap.size ≤ q → sA a s.heap.size q := sA_new
  have hX2 : sXf (sA a H.size) s H := (hX.kept (fun x h1 h2 => hw.2.2.2.1 x h1 h2)).narrow (fun q h => sA_sub hw hA h)
  have hr := vx_runV (l := l) (e := e) (below := below) (meth := meth) (locs := locs) (Qc := fun _ _ _ _ => False) S (hM H.size) cw ⟨sBX_blind, va_recv hK hw.1 (q0 := 0) kcX3 (by rw [sW_get (by omega), sE_o]), fun U hU hW => ⟨rfl, sB_of hK hN hw hU hW, by rw [hU]; exact sXf.warm hW hX2⟩⟩ (g := F0 m pc ls (As.reverse ++ .ref (a 0) :: rest)) rfl hn hsize rfl (lv_room hW) hdg hf
  intro T hT X
  rcases hr T hT X with ⟨v, st₀, t, T', L, h0, X', hL, e1, e2, hFalse, st⟩ | ⟨q, st₀, t, T', L, E2, ce, h0, X', hL, e1, e2, ⟨u, hp, hb, hF⟩, hce, hcv, hcl, st⟩
  · exact hFalse.elim
  · cases hb
    have hS1 : va_S (sA a s.heap.size) s.heap T'.heap (locs ++ L) := (vx_keep h0 e1 hw.2.2 (fun q _ h => sA_sub hw hA h) (fun q h => sA_sub hw hA h) hL hF).2.2
    obtain ⟨t2, a1, b1⟩ := vx_out (E := E) (Qc := Qc) (XC := vx_X (fun (_ : Unit) => True) (fun E' _ _ => E' = E) (sA a s.heap.size)) (free := sA a s.heap.size) (mc := 1) (ms := 6) (pc := pc) (ls := ls) (rest := rest) (fun x hx => (hnx x hx).elim) hlocks (by rw [e1]; exact hce) hcv hcl (fun t9 ht9 hW9 => ⟨(), trivial, rfl, by rw [ht9]; exact hS1.1, fun q h1 h2 => by rw [ht9]; exact hS1.2.1 q h1 h2⟩) hS1.2.2 hc hs T' rfl X'
    exact ⟨t2, st.trans a1, b1⟩
end SX
