section
/-- a private method of a class that the tables say can be made, by its rows of tables_1 -/
def lw_okq (q : MethodName × Nat) : Prop := (q.1.cls ≠ "java/lang/invoke/MethodHandle" ∧ q.1.cls ≠ "java/lang/invoke/VarHandle") ∧ Cond.instantiable q.1.cls q.2 ∈ tables_1 ∧ Cond.privateMethod q.1 ∈ tables_1 ∧ Cond.instanceMethod q.1 ∈ tables_1
theorem lw_p0 : lw_okq (⟨"java/lang/Throwable", "fillInStackTrace", "(I)Ljava/lang/Throwable;"⟩, 6) := ⟨⟨by decide +kernel, by decide +kernel⟩, List.mem_of_getElem? (i := 207) (by decide +kernel), List.mem_of_getElem? (i := 205) (by decide +kernel), List.mem_of_getElem? (i := 206) (by decide +kernel)⟩
theorem lw_p1 : lw_okq (⟨"SaltRow", "needWeather", "(II)V"⟩, 10) := ⟨⟨by decide +kernel, by decide +kernel⟩, List.mem_of_getElem? (i := 13) (by decide +kernel), List.mem_of_getElem? (i := 237) (by decide +kernel), List.mem_of_getElem? (i := 238) (by decide +kernel)⟩
theorem lw_p2 : lw_okq (⟨"SaltRow", "needPond", "(I)V"⟩, 10) := ⟨⟨by decide +kernel, by decide +kernel⟩, List.mem_of_getElem? (i := 13) (by decide +kernel), List.mem_of_getElem? (i := 339) (by decide +kernel), List.mem_of_getElem? (i := 340) (by decide +kernel)⟩
theorem lw_p3 : lw_okq (⟨"SaltRow", "needFamily", "(I)V"⟩, 10) := ⟨⟨by decide +kernel, by decide +kernel⟩, List.mem_of_getElem? (i := 13) (by decide +kernel), List.mem_of_getElem? (i := 363) (by decide +kernel), List.mem_of_getElem? (i := 364) (by decide +kernel)⟩
theorem lw_p4 : lw_okq (⟨"SaltRow", "needPan", "(I)V"⟩, 10) := ⟨⟨by decide +kernel, by decide +kernel⟩, List.mem_of_getElem? (i := 13) (by decide +kernel), List.mem_of_getElem? (i := 368) (by decide +kernel), List.mem_of_getElem? (i := 369) (by decide +kernel)⟩
theorem lw_p5 : lw_okq (⟨"SaltRow", "rightsIn", "(I)I"⟩, 10) := ⟨⟨by decide +kernel, by decide +kernel⟩, List.mem_of_getElem? (i := 13) (by decide +kernel), List.mem_of_getElem? (i := 374) (by decide +kernel), List.mem_of_getElem? (i := 375) (by decide +kernel)⟩
theorem lw_p6 : lw_okq (⟨"SaltRow", "shareOut", "(III)V"⟩, 10) := ⟨⟨by decide +kernel, by decide +kernel⟩, List.mem_of_getElem? (i := 13) (by decide +kernel), List.mem_of_getElem? (i := 403) (by decide +kernel), List.mem_of_getElem? (i := 404) (by decide +kernel)⟩
theorem lw_p7 : lw_okq (⟨"SaltRow", "sumOfFamilies", "(I)I"⟩, 10) := ⟨⟨by decide +kernel, by decide +kernel⟩, List.mem_of_getElem? (i := 13) (by decide +kernel), List.mem_of_getElem? (i := 464) (by decide +kernel), List.mem_of_getElem? (i := 465) (by decide +kernel)⟩
theorem lw_p8 : lw_okq (⟨"SaltRow", "saltInPansWith", "(IIII)I"⟩, 10) := ⟨⟨by decide +kernel, by decide +kernel⟩, List.mem_of_getElem? (i := 13) (by decide +kernel), List.mem_of_getElem? (i := 486) (by decide +kernel), List.mem_of_getElem? (i := 487) (by decide +kernel)⟩
theorem lw_p9 : lw_okq (⟨"SaltRow", "digestOfFamily", "(IJ)J"⟩, 10) := ⟨⟨by decide +kernel, by decide +kernel⟩, List.mem_of_getElem? (i := 13) (by decide +kernel), List.mem_of_getElem? (i := 506) (by decide +kernel), List.mem_of_getElem? (i := 507) (by decide +kernel)⟩
def lw_privs_1 : List (MethodName × Nat) := [(⟨"java/lang/Throwable", "fillInStackTrace", "(I)Ljava/lang/Throwable;"⟩, 6), (⟨"SaltRow", "needWeather", "(II)V"⟩, 10), (⟨"SaltRow", "needPond", "(I)V"⟩, 10), (⟨"SaltRow", "needFamily", "(I)V"⟩, 10), (⟨"SaltRow", "needPan", "(I)V"⟩, 10), (⟨"SaltRow", "rightsIn", "(I)I"⟩, 10), (⟨"SaltRow", "shareOut", "(III)V"⟩, 10), (⟨"SaltRow", "sumOfFamilies", "(I)I"⟩, 10), (⟨"SaltRow", "saltInPansWith", "(IIII)I"⟩, 10), (⟨"SaltRow", "digestOfFamily", "(IJ)J"⟩, 10)]
theorem lw_r1 : ∀ q ∈ lw_privs_1, lw_okq q := List.forall_mem_cons.mpr ⟨lw_p0, List.forall_mem_cons.mpr ⟨lw_p1, List.forall_mem_cons.mpr ⟨lw_p2, List.forall_mem_cons.mpr ⟨lw_p3, List.forall_mem_cons.mpr ⟨lw_p4, List.forall_mem_cons.mpr ⟨lw_p5, List.forall_mem_cons.mpr ⟨lw_p6, List.forall_mem_cons.mpr ⟨lw_p7, List.forall_mem_cons.mpr ⟨lw_p8, List.forall_mem_cons.mpr ⟨lw_p9, fun _ h => absurd h List.not_mem_nil⟩⟩⟩⟩⟩⟩⟩⟩⟩⟩
def lw_privs : List (MethodName × Nat) := lw_privs_1
def lw_tbl : List Cond := k2_sels lw_privs ++ tables_1
theorem lw_privs_ok : ∀ q ∈ lw_privs, lw_okq q := lw_r1
end
section
/-! ===== BEGIN words of one list among another's, by their places ===== -/
theorem goodIn_r {big : List Cond} (ws : List Cond) (ps : List Nat) (hp : ws = ps.filterMap (fun i => big[i]?)) (h : ws.all goodWord = true) : GoodIn big ws := by
  intro w hw
  have h1 := List.all_eq_true.mp h w hw
  rw [hp] at hw
  obtain ⟨i, -, hi⟩ := List.mem_filterMap.mp hw
  have hm : w ∈ big := by first | exact List.mem_of_getElem? hi | exact List.getElem?_mem hi
  exact ⟨hm, good_of_word h1⟩
theorem goodIn_app {big a b : List Cond} (ha : GoodIn big a) (hb : GoodIn big b) : GoodIn big (a ++ b) := fun w h => (List.mem_append.mp h).elim (ha w) (hb w)
theorem goodIn_ca {big a b : List Cond} {c : Cond} (ha : GoodIn big (c :: a)) (hb : GoodIn big b) : GoodIn big (c :: (a ++ b)) := fun w h => (List.mem_cons.mp h).elim (fun e => ha w (List.mem_cons.mpr (Or.inl e))) (fun h => (List.mem_append.mp h).elim (fun h => ha w (List.mem_cons.mpr (Or.inr h))) (hb w))
theorem goodIn_sub {big ws : List Cond} (hm : ∀ w ∈ ws, w ∈ big) (h : ws.all goodWord = true) : GoodIn big ws := fun w hw => ⟨hm w hw, good_of_word (List.all_eq_true.mp h w hw)⟩
/-! ===== END ===== -/

/-! ===== BEGIN exceptions that leave a method, and their catching by the caller (launches without stack traces) ===== -/
section VXA
/-! The laws vx_back, vx_callV, vx_callS, vx_callSW, vx_throw0, vx_throwS follow proofs of the library, with one case more: JvmDerived/Free/Laws.lean (Back.of_free), Shelf42/LK1.lean (callV, callS), Shelf/KitTraced.lean (throwNew0V, throwNewS). -/
/-- where a method has thrown q: the class by its name, the cell, what was written, the world -/
def vx_T (XC : String → State → State → Prop) (st : State) (q : Addr) (t : State) (mc ms : Nat) (free : Addr → Prop) : Prop :=
  ∃ (E : String) (ce : Cell) (L : List Loc), XC E st t ∧ t.heap[q]? = some ce ∧ ce.vm = .none ∧ st.vm.findClass E = some ce.cls ∧ st.WarmedH t.vm ∧ st.sameButNew ({ t with vm := st.vm } : State) L mc ms ∧ ∀ z ∈ L, free z.base
def vx_Q (Qc : Array Value → State → Outcome → State → Prop) (XC : String → State → State → Prop) (mc ms : Nat) (free : Addr → Prop) : Array Value → State → Outcome → State → Prop := fun a st o t =>
  (Qc a st o t ∧ ∃ L, FrameEnd st o t L mc ms ∧ ∀ q ∈ L, free q.base) ∨ ∃ q, o = .threw q ∧ vx_T XC st q t mc ms free
/-- a callee that returns or throws -/
def vx_Met (l : Launch) (y : MethodName) (ws : List Cond) (rm : Room) (Pc : Array Value → State → Prop) (Qc : Array Value → State → Outcome → State → Prop) (XC : String → State → State → Prop) (mc ms : Nat) (free : Addr → Prop) : Prop :=
  MetFree l y (headSpec ws rm) Pc (fun _ _ _ _ _ => True) (vx_Q Qc XC mc ms free)
def vx_Post (XC : String → State → State → Prop) (mc ms : Nat) (free : Addr → Prop) : Pt → Array Value → Addr → Pt → Prop := fun A a q B =>
  ∃ (g : JFrame) (mk : MethodId) (t : State) (L : List Loc) (E : String) (ce : Cell), B.U.heap = t.heap ∧ B.U.vm = t.vm ∧ XC E (A.U.calling g mk a) t ∧ t.heap[q]? = some ce ∧ ce.vm = .none ∧ A.U.vm.findClass E = some ce.cls ∧ B.locs = A.locs ++ L ∧ (∀ z ∈ L, free z.base) ∧ B.cells = A.cells + mc ∧ B.slots = A.slots + ms
def vx_Back (l : Launch) (R : Room) (p : Program) (e : Env) (below : List Frame) (s : State) (sargs : Array Value) (y : MethodName) (len W9 : Nat)
    (Pre : Pt → Array Value → Prop) (Post : Pt → Array Value → Option Value → Pt → Prop) (PostX : Pt → Array Value → Addr → Pt → Prop) : Prop :=
  ∀ (m : MethodId) (meth : Method) (c : Code) (A : Pt) (g : JFrame) (ig : Instr) (mk : MethodId) (a : Array Value),
    Stand p l e R s m sargs below meth c A.U A.locs A.cells A.slots → g.method = m → g.locals.size = c.maxLocals → decode c.code g.pc = .ok (ig, len) →
    2 * g.monitorRoom + (g.stack.map fun v => v.category).sum ≤ W9 → A.U.methodNamed? y = some mk → Pre A a →
    (∃ (v : Option Value) (B : Pt), Stand p l e R s m sargs below meth c B.U B.locs B.cells B.slots ∧ Post A a v B ∧
      Steps p.tables e below (doInvoke e (A.U.setTop g) [] mk a).1 (B.U.setTop { g with pc := g.pc + len, stack := v.toList ++ g.stack })) ∨
    (∃ (q : Addr) (B : Pt), Stand p l e R s m sargs below meth c B.U B.locs B.cells B.slots ∧ PostX A a q B ∧
      Steps p.tables e below (doInvoke e (A.U.setTop g) [] mk a).1 ((B.U.setTop g).pushFrame (.throwing q)))
section Payer
variable {l : Launch} {R : Room} {p : Program} {e : Env} {below : List Frame} {s : State} {sargs : Array Value} {y : MethodName} {len W9 : Nat}
theorem vx_back {ws : List Cond} {rm : Room} {Pc : Array Value → State → Prop} {Qc : Array Value → State → Outcome → State → Prop} {XC : String → State → State → Prop} {mc ms : Nat} {free : Addr → Prop} {bytes : ByteArray} {maxL : Nat} {ret : Option FieldType}
    (hM : vx_Met l y ws rm Pc Qc XC mc ms free) (hblind : FrameBlind Pc) (hrc : rm.cells = mc) (hrs : rm.slots = ms)
    (hframes : rm.frames + 1 ≤ R.frames) (hlocals : W9 + (maxL + 11) + rm.locals ≤ R.locals)
    (hws : ∀ w ∈ ws, ∀ a' U, s.WarmedH U.vm → w.before a' U = true) (hcode : Cond.code y bytes maxL ret ∈ ws) (hinit : ∀ a' U, s.WarmedH U.vm → (Cond.initialized y.cls).before a' U = true) :
    vx_Back l R p e below s sargs y len W9 (PreOf R mc ms Pc) (PostOf Qc mc ms free) (vx_Post XC mc ms free) := by
  intro m meth c A g ig mk a X hg hsize hdg hW hn hp
  have h1 : (headSpec ws rm).pre.before a A.U = true := atoms_intro fun w hw => hws w hw _ _ X.warmed
  have h2 : (Cond.code y bytes maxL ret).before a A.U = true := hws _ hcode _ _ X.warmed
  have h3 : (Cond.initialized y.cls).before a A.U = true := hinit _ _ X.warmed
  have h4 : A.cells + (headSpec ws rm).room.cells ≤ R.cells := by rw [show (headSpec ws rm).room.cells = mc from hrc]; exact hp.1
  have h5 : A.slots + (headSpec ws rm).room.slots ≤ R.slots := by rw [show (headSpec ws rm).room.slots = ms from hrs]; exact hp.2.1
  have hPc : Pc a (A.U.calling g mk a) := hblind _ _ _ _ hp.2.2
  obtain ⟨U, Ls, c0, s0⟩ := A
  dsimp only [Pt.U, Pt.locs, Pt.cells, Pt.slots] at h1 h2 h3 h4 h5 X hn hPc ⊢
  obtain ⟨methY, cY, hmY, hcY, -, hlY, -, -, -, -⟩ := Cond.code_spec hn h2
  obtain ⟨kY, hkY, -⟩ := className_of_methodNamed hn
  have hinitY : kY.init = .initialized := Cond.initialized_spec (findClass_of_methodNamed hn) hkY h3
  have h : At U g.method c below := by rw [hg]; exact X.here
  have hlocals9 : W9 + (maxL + 11) + (headSpec ws rm).room.locals ≤ R.locals := hlocals
  have happ : (headSpec ws rm).appliesLoose y e.platform (U.calling g mk a) = true :=
    Spec.appliesLoose_calling (g := g) h hdg hn hkY hinitY
      (X.room_calling (g := g) (R' := (headSpec ws rm).room) hsize hmY hcY hframes (by rw [hlY]; omega) h4 h5) h1
  obtain ⟨mid, hmid⟩ := h.above
  have hfr : (U.setTop g).frames = (.java g :: mid) ++ below := by rw [State.frames_setTop' g h.top, hmid]; rfl
  obtain ⟨o, s₂, hsteps, -, hend, hq⟩ := Steps.callFree hM p X.admits X.cas X.clock (acts := []) hfr happ hPc trivial
  have hq' : vx_Q Qc XC mc ms free a (U.calling g mk a) o s₂ := hq
  rw [State.frames_setTop' g h.top] at hend
  obtain ⟨g₀, hg0⟩ := Option.isSome_iff_exists.mp h.top
  obtain ⟨r, hr⟩ := State.topJava?_eq_some.mp hg0
  have hr' : (({ U with heap := s₂.heap, slotsUsed := s₂.slotsUsed } : State).setVm s₂.vm).frames = .java g₀ :: r := hr
  rcases hq' with ⟨hqc, L, hfe, hL⟩ | ⟨q, rfl, E, ce, L, hx, hce, hcv, hcl, hW₂, hsm, hL⟩
  · obtain ⟨⟨v, rfl⟩, hW₂, e2, q2, q3, q4, q5, q6⟩ := id hfe
    have e3 : s₂ = ({ (U.calling g mk a).setFrames s₂.frames with heap := s₂.heap, slotsUsed := s₂.slotsUsed } : State).setVm s₂.vm := by
      have : s₂ = ({ s₂ with vm := (U.calling g mk a).vm } : State).setVm s₂.vm := rfl
      rw [e2] at this
      exact this
    obtain ⟨c₂, i₂, len₂, hc₂, hd₂, hf₂⟩ := hend
    have hW' : U.WarmedH s₂.vm := hW₂
    have hcc : c₂ = c := by
      have h1 : s₂.code? g.method = U.code? g.method := by
        rw [State.code?_eq, State.code?_eq, hW'.alike.method?]
      exact Option.some.inj (hc₂.symm.trans (h1.trans h.code))
    subst hcc
    have hlen : len₂ = len := by rw [hdg] at hd₂; cases hd₂; rfl
    subst hlen
    have hs₂ : s₂ = (({ U with heap := s₂.heap, slotsUsed := s₂.slotsUsed } : State).setVm s₂.vm).setTop { g with pc := g.pc + len₂, stack := v.toList ++ g.stack } := by
      refine e3.trans ?_
      rw [hf₂, State.calling_eq h.top, State.setFrames_setFrames, State.setTop_of_frames _ hr', hr]
      rfl
    have hsame : U.sameButNew ({ U with heap := s₂.heap, slotsUsed := s₂.slotsUsed } : State) L mc ms := by
      refine ⟨?_, q2, q3, q4, q5, q6⟩
      obtain ⟨t, ht, -⟩ := State.frames_cons hr
      show ({ U with heap := s₂.heap, slotsUsed := s₂.slotsUsed } : State) = { U.setFrames U.frames with heap := s₂.heap, slotsUsed := s₂.slotsUsed }
      rw [State.setFrames_self ht]
    subst hg
    refine Or.inl ⟨v, ⟨(({ U with heap := s₂.heap, slotsUsed := s₂.slotsUsed } : State).setVm s₂.vm), Ls ++ L, c0 + mc, s0 + ms⟩,
      ⟨X.admits, X.cas, X.clock, X.frames, X.room, X.hears, X.method, X.code, (X.here.setHeapUsed s₂.heap s₂.slotsUsed).setVm hW'.alike, X.tail, State.WarmedH.trans X.warmed hW', X.limits, X.bytes, X.same.trans (hsame.setVm s.vm)⟩,
      ⟨g, mk, s₂, L, rfl, rfl, hqc, rfl, hL, rfl, rfl⟩, ?_⟩
    show Steps p.tables e below _ ((({ U with heap := s₂.heap, slotsUsed := s₂.slotsUsed } : State).setVm s₂.vm).setTop { g with pc := g.pc + len₂, stack := v.toList ++ g.stack })
    rw [← hs₂]
    exact hsteps
  · obtain ⟨e2, q2, q3, q4, q5, q6⟩ := id hsm
    have e3 : s₂ = ({ (U.calling g mk a).setFrames s₂.frames with heap := s₂.heap, slotsUsed := s₂.slotsUsed } : State).setVm s₂.vm := by
      have : s₂ = ({ s₂ with vm := (U.calling g mk a).vm } : State).setVm s₂.vm := rfl
      rw [e2] at this
      exact this
    have hf₂ : s₂.frames = .throwing q :: .java g :: U.frames.tail := hend
    have hW' : U.WarmedH s₂.vm := hW₂
    have hs₂ : s₂ = ((({ U with heap := s₂.heap, slotsUsed := s₂.slotsUsed } : State).setVm s₂.vm).setTop g).pushFrame (.throwing q) := by
      refine e3.trans ?_
      rw [hf₂, State.calling_eq h.top, State.setFrames_setFrames, State.pushFrame, State.frames_setTop _ hr', State.setTop_of_frames _ hr', State.setFrames_setFrames, hr]
      rfl
    have hsame : U.sameButNew ({ U with heap := s₂.heap, slotsUsed := s₂.slotsUsed } : State) L mc ms := by
      refine ⟨?_, q2, q3, q4, q5, q6⟩
      obtain ⟨t, ht, -⟩ := State.frames_cons hr
      show ({ U with heap := s₂.heap, slotsUsed := s₂.slotsUsed } : State) = { U.setFrames U.frames with heap := s₂.heap, slotsUsed := s₂.slotsUsed }
      rw [State.setFrames_self ht]
    subst hg
    refine Or.inr ⟨q, ⟨(({ U with heap := s₂.heap, slotsUsed := s₂.slotsUsed } : State).setVm s₂.vm), Ls ++ L, c0 + mc, s0 + ms⟩,
      ⟨X.admits, X.cas, X.clock, X.frames, X.room, X.hears, X.method, X.code, (X.here.setHeapUsed s₂.heap s₂.slotsUsed).setVm hW'.alike, X.tail, State.WarmedH.trans X.warmed hW', X.limits, X.bytes, X.same.trans (hsame.setVm s.vm)⟩,
      ⟨g, mk, s₂, L, E, ce, rfl, rfl, hx, hce, hcv, hcl, rfl, hL, rfl, rfl⟩, ?_⟩
    show Steps p.tables e below _ (((({ U with heap := s₂.heap, slotsUsed := s₂.slotsUsed } : State).setVm s₂.vm).setTop g).pushFrame (.throwing q))
    rw [← hs₂]
    exact hsteps
end Payer
section Calls
variable {p : Program} {l : Launch} {e : Env} {R : Room} {s : State} {m : MethodId} {args : Array Value} {below : List Frame} {meth : Method} {c : Code} {T : State} {locs : List Loc} {cells slots : Nat}
theorem vx_callV (X : Stand p l e R s m args below meth c T locs cells slots) (hexec : p.tables.exec = Jvm.exec) {own C : String} {index : Nat} {y : MethodName} {bytes : ByteArray} {maxL : Nat} {ret : Option FieldType}
    (hown : s.vm.findClass own = some m.cls) (hlink : (Cond.methodLink own index y).before args s = true) (hinst : (Cond.instanceMethod y).before args s = true) (hsel : (Cond.selects C y y).before args s = true)
    (hcode : (Cond.code y bytes maxL ret).before args s = true) (hy : y.cls ≠ "java/lang/invoke/MethodHandle" ∧ y.cls ≠ "java/lang/invoke/VarHandle")
    {W9 : Nat} {Pre : Pt → Array Value → Prop} {Post : Pt → Array Value → Option Value → Pt → Prop} {PostX : Pt → Array Value → Addr → Pt → Prop} (hK : vx_Back l R p e below s args y 3 W9 Pre Post PostX)
    {b : Addr} {cellB : Cell} (hcell : T.heap[b]? = some cellB) (hobj : cellB.vm.isStatics = false) (hcls : s.vm.findClass C = some cellB.cls)
    {g : JFrame} (hg : g.method = m) (hsize : g.locals.size = c.maxLocals) {argsL rest : List Value} (hlen : ∀ sig, parseMethodDescriptor y.desc = some sig → argsL.length = sig.parameters.length)
    (hstack : g.stack = argsL.reverse ++ .ref b :: rest) (hW : 2 * g.monitorRoom + (rest.map fun v => v.category).sum ≤ W9) (hdg : decode c.code g.pc = .ok (.invokevirtual index, 3))
    (hpre : ∀ vm₁, s.WarmedH vm₁ → Pre ⟨T.setVm vm₁, locs, cells, slots⟩ (Value.ref b :: argsL).toArray) :
    (∃ (v : Option Value) (vm₁ : Vm) (B : Pt), s.WarmedH vm₁ ∧ Stand p l e R s m args below meth c B.U B.locs B.cells B.slots ∧ Post ⟨T.setVm vm₁, locs, cells, slots⟩ (Value.ref b :: argsL).toArray v B ∧
      ∀ target, Steps p.tables e below (B.U.setTop { g with pc := g.pc + 3, stack := v.toList ++ rest }) target → Steps p.tables e below (T.setTop g) target) ∨
    (∃ (q : Addr) (vm₁ : Vm) (B : Pt), s.WarmedH vm₁ ∧ Stand p l e R s m args below meth c B.U B.locs B.cells B.slots ∧ PostX ⟨T.setVm vm₁, locs, cells, slots⟩ (Value.ref b :: argsL).toArray q B ∧
      Steps p.tables e below (T.setTop g) ((B.U.setTop { g with stack := rest }).pushFrame (.throwing q))) := by
  obtain ⟨mk, methM, hnamed, hmethM, hstM, habM⟩ := Cond.instanceMethod_spec hinst
  obtain ⟨methM', cM, hmethM', -, -, -, -, -, -, hsigM⟩ := Cond.code_spec hnamed hcode
  cases hmethM.symm.trans hmethM'
  obtain ⟨c2, r2, m2, q1, q2, q3, q4, kP, hkP, hkPi⟩ := Cond.selects_spec hsel
  cases hcls.symm.trans q1
  cases (State.methodFound?_of_named hnamed hy).symm.trans q2
  cases hnamed.symm.trans q3
  have hselP : selectMethod e.platform s.vm cellB.cls mk = .method mk := by rw [Launch.admits_selectMethod X.admits]; exact q4
  obtain ⟨vm₁, X₁, hstep₁⟩ := X.invokevirtual hexec hown hlink hnamed hmethM hstM hkP hkPi hy (a := b) (cell := cellB) hcell
    (fun z h => by rw [h] at hobj; cases hobj) hselP hmethM habM hkP hkPi (g := g) hg (argsL := argsL) (rest := rest) (hlen _ hsigM) hstack hdg
  rcases hK m meth c ⟨T.setVm vm₁, locs, cells, slots⟩ { g with stack := rest } (.invokevirtual index) mk (Value.ref b :: argsL).toArray X₁ hg hsize hdg hW (X₁.named hnamed) (hpre vm₁ X₁.warmed) with ⟨v, B, X', hpost, hsteps⟩ | ⟨q, B, X', hpost, hsteps⟩
  · exact Or.inl ⟨v, vm₁, B, X₁.warmed, X', hpost, fun target h => hstep₁ _ fun acts => by rw [doInvoke_state]; exact hsteps.trans h⟩
  · exact Or.inr ⟨q, vm₁, B, X₁.warmed, X', hpost, hstep₁ _ fun acts => by rw [doInvoke_state]; exact hsteps⟩
theorem vx_callS (X : Stand p l e R s m args below meth c T locs cells slots) (hexec : p.tables.exec = Jvm.exec) {own : String} {index : Nat} {y : MethodName} {bytes : ByteArray} {maxL : Nat} {ret : Option FieldType}
    (hown : s.vm.findClass own = some m.cls) (hlink : (Cond.methodLink own index y).before args s = true) (hstat : (Cond.static y).before args s = true) (hinit : (Cond.initialized y.cls).before args s = true)
    (hcode : (Cond.code y bytes maxL ret).before args s = true) (hy : y.cls ≠ "java/lang/invoke/MethodHandle" ∧ y.cls ≠ "java/lang/invoke/VarHandle")
    {W9 : Nat} {Pre : Pt → Array Value → Prop} {Post : Pt → Array Value → Option Value → Pt → Prop} {PostX : Pt → Array Value → Addr → Pt → Prop} (hK : vx_Back l R p e below s args y 3 W9 Pre Post PostX)
    {g : JFrame} (hg : g.method = m) (hsize : g.locals.size = c.maxLocals) {argsL rest : List Value} (hlen : ∀ sig, parseMethodDescriptor y.desc = some sig → argsL.length = sig.parameters.length)
    (hstack : g.stack = argsL.reverse ++ rest) (hW : 2 * g.monitorRoom + (rest.map fun v => v.category).sum ≤ W9) (hdg : decode c.code g.pc = .ok (.invokestatic index, 3))
    (hpre : ∀ vm₁, s.WarmedH vm₁ → Pre ⟨T.setVm vm₁, locs, cells, slots⟩ argsL.toArray) :
    (∃ (v : Option Value) (vm₁ : Vm) (B : Pt), s.WarmedH vm₁ ∧ Stand p l e R s m args below meth c B.U B.locs B.cells B.slots ∧ Post ⟨T.setVm vm₁, locs, cells, slots⟩ argsL.toArray v B ∧
      ∀ target, Steps p.tables e below (B.U.setTop { g with pc := g.pc + 3, stack := v.toList ++ rest }) target → Steps p.tables e below (T.setTop g) target) ∨
    (∃ (q : Addr) (vm₁ : Vm) (B : Pt), s.WarmedH vm₁ ∧ Stand p l e R s m args below meth c B.U B.locs B.cells B.slots ∧ PostX ⟨T.setVm vm₁, locs, cells, slots⟩ argsL.toArray q B ∧
      Steps p.tables e below (T.setTop g) ((B.U.setTop { g with stack := rest }).pushFrame (.throwing q))) := by
  obtain ⟨mk, hnamed⟩ := Cond.code_named hcode
  obtain ⟨methM, cM, hmethM, -, -, -, -, -, -, hsigM⟩ := Cond.code_spec hnamed hcode
  have hstatic : methM.isStatic = true := Cond.static_spec hnamed hmethM hstat
  obtain ⟨kP, hkP, -⟩ := className_of_methodNamed hnamed
  have hinitP : kP.init = .initialized := Cond.initialized_spec (findClass_of_methodNamed hnamed) hkP hinit
  obtain ⟨vm₁, X₁, hstep₁⟩ := X.invokestatic hexec hown hlink hnamed hmethM hstatic hkP hinitP hy (g := g) hg (argsL := argsL) (rest := rest) (hlen _ hsigM) hstack hdg
  rcases hK m meth c ⟨T.setVm vm₁, locs, cells, slots⟩ { g with stack := rest } (.invokestatic index) mk argsL.toArray X₁ hg hsize hdg hW (X₁.named hnamed) (hpre vm₁ X₁.warmed) with ⟨v, B, X', hpost, hsteps⟩ | ⟨q, B, X', hpost, hsteps⟩
  · exact Or.inl ⟨v, vm₁, B, X₁.warmed, X', hpost, fun target h => hstep₁ _ fun acts => by rw [doInvoke_state]; exact hsteps.trans h⟩
  · exact Or.inr ⟨q, vm₁, B, X₁.warmed, X', hpost, hstep₁ _ fun acts => by rw [doInvoke_state]; exact hsteps⟩
end Calls
theorem vx_cls {s : State} {T : State} {vm₁ : Vm} {E : String} {k : ClassId} (hW : s.WarmedH vm₁) (h : (T.setVm vm₁).vm.findClass E = some k) : s.vm.findClass E = some k := by
  have h1 : vm₁.findClass E = some k := h
  rw [hW.alike.findClass] at h1
  exact h1
/-- the method's frame g, with q thrown over it -/
def vx_W (p : Program) (l : Launch) (e : Env) (R : Room) (s : State) (m : MethodId) (args : Array Value) (below : List Frame) (meth : Method) (c : Code) (H : Heap) (locs : List Loc) (cells slots : Nat) (Q : State → Prop) (g : JFrame) (q : Addr) : Prop :=
  ∀ T : State, T.heap = H → Stand p l e R s m args below meth c T locs cells slots → ∃ t, Steps p.tables e below ((T.setTop g).pushFrame (.throwing q)) t ∧ Q t
def vx_Run (p : Program) (l : Launch) (e : Env) (R : Room) (s : State) (m : MethodId) (args : Array Value) (below : List Frame) (meth : Method) (c : Code) (H : Heap) (locs : List Loc) (cells slots mc ms : Nat) (g : JFrame) (rest : List Value) (Qa : State → Outcome → State → Prop) (XC : String → State → State → Prop) (free : Addr → Prop) : Prop :=
  ∀ T : State, T.heap = H → Stand p l e R s m args below meth c T locs cells slots →
    (∃ (v : Option Value) (st₀ t T' : State) (L : List Loc), st₀.heap = H ∧ Stand p l e R s m args below meth c T' (locs ++ L) (cells + mc) (slots + ms) ∧ (∀ q ∈ L, free q.base) ∧ T'.heap = t.heap ∧ T'.vm = t.vm ∧ Qa st₀ (.returned v) t ∧
      Goes p e below T g T' { g with pc := g.pc + 3, stack := v.toList ++ rest }) ∨
    (∃ (q : Addr) (st₀ t T' : State) (L : List Loc) (E : String) (ce : Cell), st₀.heap = H ∧ Stand p l e R s m args below meth c T' (locs ++ L) (cells + mc) (slots + ms) ∧ (∀ z ∈ L, free z.base) ∧ T'.heap = t.heap ∧ T'.vm = t.vm ∧ XC E st₀ t ∧ t.heap[q]? = some ce ∧ ce.vm = .none ∧ s.vm.findClass E = some ce.cls ∧
      Steps p.tables e below (T.setTop g) ((T'.setTop { g with stack := rest }).pushFrame (.throwing q)))
def vx_X {S : Type} (px : S → Prop) (B : String → S → State → Prop) (A : Nat → Prop) : String → State → State → Prop := fun E st t => ∃ u : S, px u ∧ B E u t ∧ va_F A st t
section Runs
variable {p : Program} {l : Launch} {e : Env} {R : Room} {s : State} {m : MethodId} {args : Array Value} {below : List Frame} {meth : Method} {c : Code} {H : Heap} {locs : List Loc} {cells slots : Nat}
variable {y : MethodName} {bytes cc : ByteArray} {maxL nL mc ms n index : Nat} {ret : Option FieldType} {ws : List Cond} {rm : Room} {Pc : Array Value → State → Prop} {Qc : Array Value → State → Outcome → State → Prop} {XC : String → State → State → Prop} {free : Addr → Prop} {Ts : List Cond} {own C : String} {b : Addr} {As rest : List Value} {g : JFrame}
theorem vx_callBack (cb : CallB R s args own index y bytes maxL ret ws rm mc ms n) (hM : vx_Met l y ws rm Pc Qc XC mc ms free) (hbl : FrameBlind Pc) : vx_Back l R p e below s args y 3 8 (PreOf R mc ms Pc) (PostOf Qc mc ms free) (vx_Post XC mc ms free) := by
  obtain ⟨hrc, hrs, hfr, hlo, hws, hcw, -, hini, -⟩ := cb
  exact vx_back (bytes := bytes) (maxL := maxL) (ret := ret) hM hbl hrc hrs hfr hlo hws hcw (fun a' U hW => word_at hW (Or.inl (by first | rfl | simp [Cond.onTables, Cond.keeps, Cond.steady])) hini)
theorem vx_runV (S : CallFix p m c cc nL s args Ts own) (hM : vx_Met l y ws rm Pc Qc XC mc ms free) (cw : CallW R s args own C index y bytes maxL ret ws rm mc ms n) (hp : PreV s H C b Pc As)
    (hg : g.method = m) (hn : As.length = n) (hsize : g.locals.size = nL) (hstack : g.stack = As.reverse ++ .ref b :: rest) (hW : 2 * g.monitorRoom + (rest.map fun v => v.category).sum ≤ 8) (hdg : decode cc g.pc = .ok (.invokevirtual index, 3)) (hf : cells + mc ≤ R.cells ∧ slots + ms ≤ R.slots) :
    vx_Run p l e R s m args below meth c H locs cells slots mc ms g rest (Qc (Value.ref b :: As).toArray) XC free := by
  have hK : vx_Back l R p e below s args y 3 8 (PreOf R mc ms Pc) (PostOf Qc mc ms free) (vx_Post XC mc ms free) := vx_callBack cw.1 hM hp.1
  obtain ⟨⟨-, -, -, -, -, -, hcode, -, hy, hlen, hl⟩, hin, hse⟩ := cw
  obtain ⟨hx, hb, hml, ho, -⟩ := S
  obtain ⟨-, ⟨cellB, hcB, hoB, hclB⟩, hPc⟩ := hp
  intro T hT X
  rcases vx_callV X hx (C := C) (bytes := bytes) (maxL := maxL) (ret := ret) ho hl hin hse hcode hy hK (by rw [hT]; exact hcB) hoB hclB hg (hsize.trans hml.symm) (argsL := As) (rest := rest) (fun sig h => hn.trans (hlen sig h)) hstack hW (by rw [hb]; exact hdg)
    (fun vm₁ hW₁ => ⟨hf.1, hf.2, hPc (T.setVm vm₁) hT hW₁⟩) with ⟨v, vm₁, ⟨U', l2, c2, s2⟩, hW₁, X', ⟨g', mk, t, L, e1, e2, hq, h1, hL, h2, h3⟩, st⟩ | ⟨q, vm₁, ⟨U', l2, c2, s2⟩, hW₁, X', ⟨g', mk, t, L, E, ce, e1, e2, hq, hce, hcv, hcl, h1, hL, h2, h3⟩, st⟩
  · dsimp only [Pt.U, Pt.locs, Pt.cells, Pt.slots] at X' e1 e2 h1 h2 h3 st
    subst h1; subst h2; subst h3
    exact Or.inl ⟨v, (T.setVm vm₁).calling g' mk (Value.ref b :: As).toArray, t, U', L, hT, X', hL, e1, e2, hq, st⟩
  · dsimp only [Pt.U, Pt.locs, Pt.cells, Pt.slots] at X' e1 e2 h1 h2 h3 st hcl
    subst h1; subst h2; subst h3
    exact Or.inr ⟨q, (T.setVm vm₁).calling g' mk (Value.ref b :: As).toArray, t, U', L, E, ce, hT, X', hL, e1, e2, hq, hce, hcv, vx_cls hW₁ hcl, st⟩
theorem vx_runS (S : CallFix p m c cc nL s args Ts own) (hM : vx_Met l y ws rm Pc Qc XC mc ms free) (cw : CallB R s args own index y bytes maxL ret ws rm mc ms n ∧ (Cond.static y).before args s = true) (hp : PreS s H Pc As)
    (hg : g.method = m) (hn : As.length = n) (hsize : g.locals.size = nL) (hstack : g.stack = As.reverse ++ rest) (hW : 2 * g.monitorRoom + (rest.map fun v => v.category).sum ≤ 8) (hdg : decode cc g.pc = .ok (.invokestatic index, 3)) (hf : cells + mc ≤ R.cells ∧ slots + ms ≤ R.slots) :
    vx_Run p l e R s m args below meth c H locs cells slots mc ms g rest (Qc As.toArray) XC free := by
  have hK : vx_Back l R p e below s args y 3 8 (PreOf R mc ms Pc) (PostOf Qc mc ms free) (vx_Post XC mc ms free) := vx_callBack cw.1 hM hp.1
  obtain ⟨⟨-, -, -, -, -, -, hcode, hini, hy, hlen, hl⟩, hstt⟩ := cw
  obtain ⟨hx, hb, hml, ho, -⟩ := S
  intro T hT X
  rcases vx_callS X hx (bytes := bytes) (maxL := maxL) (ret := ret) ho hl hstt hini hcode hy hK hg (hsize.trans hml.symm) (argsL := As) (rest := rest) (fun sig h => hn.trans (hlen sig h)) hstack hW (by rw [hb]; exact hdg)
    (fun vm₁ hW₁ => ⟨hf.1, hf.2, hp.2 (T.setVm vm₁) hT hW₁⟩) with ⟨v, vm₁, ⟨U', l2, c2, s2⟩, hW₁, X', ⟨g', mk, t, L, e1, e2, hq, h1, hL, h2, h3⟩, st⟩ | ⟨q, vm₁, ⟨U', l2, c2, s2⟩, hW₁, X', ⟨g', mk, t, L, E, ce, e1, e2, hq, hce, hcv, hcl, h1, hL, h2, h3⟩, st⟩
  · dsimp only [Pt.U, Pt.locs, Pt.cells, Pt.slots] at X' e1 e2 h1 h2 h3 st
    subst h1; subst h2; subst h3
    exact Or.inl ⟨v, (T.setVm vm₁).calling g' mk As.toArray, t, U', L, hT, X', hL, e1, e2, hq, st⟩
  · dsimp only [Pt.U, Pt.locs, Pt.cells, Pt.slots] at X' e1 e2 h1 h2 h3 st hcl
    subst h1; subst h2; subst h3
    exact Or.inr ⟨q, (T.setVm vm₁).calling g' mk As.toArray, t, U', L, E, ce, hT, X', hL, e1, e2, hq, hce, hcv, vx_cls hW₁ hcl, st⟩
end Runs
section Rows
variable {p : Program} {l : Launch} {e : Env} {R : Room} {s : State} {m : MethodId} {args : Array Value} {below : List Frame} {meth : Method} {c : Code} {H : Heap} {locs : List Loc} {cells slots : Nat} {Q : State → Prop}
variable {mc ms : Nat} {free : Addr → Prop} {A0 A1 : Nat → Prop} {H0 : Heap} {a : Array Value} {pc : Nat} {ls : Array Slot} {st0 rest : List Value}
theorem vx_keep {st₀ t T' : State} {L : List Loc} (h0 : st₀.heap = H) (e1 : T'.heap = t.heap) (hS : va_S A0 H0 H locs) (hA : ∀ q, q < H.size → A1 q → A0 q) (hf : ∀ q, free q → A0 q) (hL : ∀ q ∈ L, free q.base) (hF : va_F A1 st₀ t) :
    H.size ≤ T'.heap.size ∧ (∀ q : Nat, q < H.size → ¬ A1 q → T'.heap[q]? = H[q]?) ∧ va_S A0 H0 T'.heap (locs ++ L) := by
  obtain ⟨hz, hk⟩ := hF
  rw [h0] at hz hk
  exact ⟨by rw [e1]; exact hz, fun q h1 h2 => by rw [e1]; exact hk q h1 h2,
    ⟨Nat.le_trans hS.1 (by rw [e1]; exact hz), fun q h1 h2 => by rw [e1, hk q (Nat.lt_of_lt_of_le h1 hS.1) (fun z => h2 (hA q (Nat.lt_of_lt_of_le h1 hS.1) z))]; exact hS.2.1 q h1 h2, fun q hq => by
      rcases List.mem_append.mp hq with h | h
      · exact hS.2.2 q h
      · exact hf _ (hL q h)⟩⟩
theorem vx_calli {S SX : Type} {post : Int32 → S → Prop} {px : SX → Prop} {B : S → State → Prop} {BX : String → SX → State → Prop} {AX : Nat → Prop} (hr : vx_Run p l e R s m args below meth c H locs cells slots mc ms (F0 m pc ls st0) rest (va_Qi post B A1 a) (vx_X px BX AX) free) (hS : va_S A0 H0 H locs) (hA : ∀ q, q < H.size → A1 q → A0 q) (hf : ∀ q, free q → A0 q) (hAX : ∀ q, q < H.size → AX q → A0 q)
    (kx : ∀ (E : String) (ce : Cell) (q9 : Addr) (u : SX) (t : State) (H1 : Heap) (locs1 : List Loc), t.heap = H1 → s.vm.Alike t.vm → px u → BX E u t → H.size ≤ H1.size → (∀ q : Nat, q < H.size → ¬ AX q → H1[q]? = H[q]?) → va_S A0 H0 H1 locs1 → H1[q9]? = some ce → ce.vm = .none → s.vm.findClass E = some ce.cls → vx_W p l e R s m args below meth c H1 locs1 (cells + mc) (slots + ms) Q (F0 m pc ls rest) q9)
    (kk : ∀ (r : Int32) (u : S) (t : State) (H1 : Heap) (locs1 : List Loc), t.heap = H1 → s.vm.Alike t.vm → post r u → B u t → H.size ≤ H1.size → (∀ q : Nat, q < H.size → ¬ A1 q → H1[q]? = H[q]?) → va_S A0 H0 H1 locs1 → W p l e R s m args below meth c H1 locs1 (cells + mc) (slots + ms) Q (F0 m (pc + 3) ls (.int r :: rest))) : W p l e R s m args below meth c H locs cells slots Q (F0 m pc ls st0) := by
  intro T hT X
  rcases hr T hT X with ⟨v, st₀, t, T', L, h0, X', hL, e1, e2, ⟨⟨r, u, hv, hp, hb⟩, hF⟩, st⟩ | ⟨q, st₀, t, T', L, E, ce, h0, X', hL, e1, e2, ⟨u, hp, hb, hF⟩, hce, hcv, hcl, st⟩
  · cases hv
    obtain ⟨k1, k2, k3⟩ := vx_keep h0 e1 hS hA hf hL hF
    obtain ⟨t2, a1, b1⟩ := kk r u t T'.heap (locs ++ L) e1.symm (by rw [← e2]; exact X'.warmed.alike) hp hb k1 k2 k3 T' rfl X'
    exact ⟨t2, st t2 a1, b1⟩
  · obtain ⟨k1, k2, k3⟩ := vx_keep h0 e1 hS hAX hf hL hF
    obtain ⟨t2, a1, b1⟩ := kx E ce q u t T'.heap (locs ++ L) e1.symm (by rw [← e2]; exact X'.warmed.alike) hp hb k1 k2 k3 (by rw [e1]; exact hce) hcv hcl T' rfl X'
    exact ⟨t2, st.trans a1, b1⟩
theorem vx_calll {S SX : Type} {post : Int64 → S → Prop} {px : SX → Prop} {B : S → State → Prop} {BX : String → SX → State → Prop} {AX : Nat → Prop} (hr : vx_Run p l e R s m args below meth c H locs cells slots mc ms (F0 m pc ls st0) rest (va_Ql post B A1 a) (vx_X px BX AX) free) (hS : va_S A0 H0 H locs) (hA : ∀ q, q < H.size → A1 q → A0 q) (hf : ∀ q, free q → A0 q) (hAX : ∀ q, q < H.size → AX q → A0 q)
    (kx : ∀ (E : String) (ce : Cell) (q9 : Addr) (u : SX) (t : State) (H1 : Heap) (locs1 : List Loc), t.heap = H1 → s.vm.Alike t.vm → px u → BX E u t → H.size ≤ H1.size → (∀ q : Nat, q < H.size → ¬ AX q → H1[q]? = H[q]?) → va_S A0 H0 H1 locs1 → H1[q9]? = some ce → ce.vm = .none → s.vm.findClass E = some ce.cls → vx_W p l e R s m args below meth c H1 locs1 (cells + mc) (slots + ms) Q (F0 m pc ls rest) q9)
    (kk : ∀ (r : Int64) (u : S) (t : State) (H1 : Heap) (locs1 : List Loc), t.heap = H1 → s.vm.Alike t.vm → post r u → B u t → H.size ≤ H1.size → (∀ q : Nat, q < H.size → ¬ A1 q → H1[q]? = H[q]?) → va_S A0 H0 H1 locs1 → W p l e R s m args below meth c H1 locs1 (cells + mc) (slots + ms) Q (F0 m (pc + 3) ls (.long r :: rest))) : W p l e R s m args below meth c H locs cells slots Q (F0 m pc ls st0) := by
  intro T hT X
  rcases hr T hT X with ⟨v, st₀, t, T', L, h0, X', hL, e1, e2, ⟨⟨r, u, hv, hp, hb⟩, hF⟩, st⟩ | ⟨q, st₀, t, T', L, E, ce, h0, X', hL, e1, e2, ⟨u, hp, hb, hF⟩, hce, hcv, hcl, st⟩
  · cases hv
    obtain ⟨k1, k2, k3⟩ := vx_keep h0 e1 hS hA hf hL hF
    obtain ⟨t2, a1, b1⟩ := kk r u t T'.heap (locs ++ L) e1.symm (by rw [← e2]; exact X'.warmed.alike) hp hb k1 k2 k3 T' rfl X'
    exact ⟨t2, st t2 a1, b1⟩
  · obtain ⟨k1, k2, k3⟩ := vx_keep h0 e1 hS hAX hf hL hF
    obtain ⟨t2, a1, b1⟩ := kx E ce q u t T'.heap (locs ++ L) e1.symm (by rw [← e2]; exact X'.warmed.alike) hp hb k1 k2 k3 (by rw [e1]; exact hce) hcv hcl T' rfl X'
    exact ⟨t2, st.trans a1, b1⟩
theorem vx_callf {S SX : Type} {post : UInt32 → S → Prop} {px : SX → Prop} {B : S → State → Prop} {BX : String → SX → State → Prop} {AX : Nat → Prop} (hr : vx_Run p l e R s m args below meth c H locs cells slots mc ms (F0 m pc ls st0) rest (va_Qf post B A1 a) (vx_X px BX AX) free) (hS : va_S A0 H0 H locs) (hA : ∀ q, q < H.size → A1 q → A0 q) (hf : ∀ q, free q → A0 q) (hAX : ∀ q, q < H.size → AX q → A0 q)
    (kx : ∀ (E : String) (ce : Cell) (q9 : Addr) (u : SX) (t : State) (H1 : Heap) (locs1 : List Loc), t.heap = H1 → s.vm.Alike t.vm → px u → BX E u t → H.size ≤ H1.size → (∀ q : Nat, q < H.size → ¬ AX q → H1[q]? = H[q]?) → va_S A0 H0 H1 locs1 → H1[q9]? = some ce → ce.vm = .none → s.vm.findClass E = some ce.cls → vx_W p l e R s m args below meth c H1 locs1 (cells + mc) (slots + ms) Q (F0 m pc ls rest) q9)
    (kk : ∀ (r : UInt32) (u : S) (t : State) (H1 : Heap) (locs1 : List Loc), t.heap = H1 → s.vm.Alike t.vm → post r u → B u t → H.size ≤ H1.size → (∀ q : Nat, q < H.size → ¬ A1 q → H1[q]? = H[q]?) → va_S A0 H0 H1 locs1 → W p l e R s m args below meth c H1 locs1 (cells + mc) (slots + ms) Q (F0 m (pc + 3) ls (.float r :: rest))) : W p l e R s m args below meth c H locs cells slots Q (F0 m pc ls st0) := by
  intro T hT X
  rcases hr T hT X with ⟨v, st₀, t, T', L, h0, X', hL, e1, e2, ⟨⟨r, u, hv, hp, hb⟩, hF⟩, st⟩ | ⟨q, st₀, t, T', L, E, ce, h0, X', hL, e1, e2, ⟨u, hp, hb, hF⟩, hce, hcv, hcl, st⟩
  · cases hv
    obtain ⟨k1, k2, k3⟩ := vx_keep h0 e1 hS hA hf hL hF
    obtain ⟨t2, a1, b1⟩ := kk r u t T'.heap (locs ++ L) e1.symm (by rw [← e2]; exact X'.warmed.alike) hp hb k1 k2 k3 T' rfl X'
    exact ⟨t2, st t2 a1, b1⟩
  · obtain ⟨k1, k2, k3⟩ := vx_keep h0 e1 hS hAX hf hL hF
    obtain ⟨t2, a1, b1⟩ := kx E ce q u t T'.heap (locs ++ L) e1.symm (by rw [← e2]; exact X'.warmed.alike) hp hb k1 k2 k3 (by rw [e1]; exact hce) hcv hcl T' rfl X'
    exact ⟨t2, st.trans a1, b1⟩
theorem vx_calld {S SX : Type} {post : UInt64 → S → Prop} {px : SX → Prop} {B : S → State → Prop} {BX : String → SX → State → Prop} {AX : Nat → Prop} (hr : vx_Run p l e R s m args below meth c H locs cells slots mc ms (F0 m pc ls st0) rest (va_Qd post B A1 a) (vx_X px BX AX) free) (hS : va_S A0 H0 H locs) (hA : ∀ q, q < H.size → A1 q → A0 q) (hf : ∀ q, free q → A0 q) (hAX : ∀ q, q < H.size → AX q → A0 q)
    (kx : ∀ (E : String) (ce : Cell) (q9 : Addr) (u : SX) (t : State) (H1 : Heap) (locs1 : List Loc), t.heap = H1 → s.vm.Alike t.vm → px u → BX E u t → H.size ≤ H1.size → (∀ q : Nat, q < H.size → ¬ AX q → H1[q]? = H[q]?) → va_S A0 H0 H1 locs1 → H1[q9]? = some ce → ce.vm = .none → s.vm.findClass E = some ce.cls → vx_W p l e R s m args below meth c H1 locs1 (cells + mc) (slots + ms) Q (F0 m pc ls rest) q9)
    (kk : ∀ (r : UInt64) (u : S) (t : State) (H1 : Heap) (locs1 : List Loc), t.heap = H1 → s.vm.Alike t.vm → post r u → B u t → H.size ≤ H1.size → (∀ q : Nat, q < H.size → ¬ A1 q → H1[q]? = H[q]?) → va_S A0 H0 H1 locs1 → W p l e R s m args below meth c H1 locs1 (cells + mc) (slots + ms) Q (F0 m (pc + 3) ls (.double r :: rest))) : W p l e R s m args below meth c H locs cells slots Q (F0 m pc ls st0) := by
  intro T hT X
  rcases hr T hT X with ⟨v, st₀, t, T', L, h0, X', hL, e1, e2, ⟨⟨r, u, hv, hp, hb⟩, hF⟩, st⟩ | ⟨q, st₀, t, T', L, E, ce, h0, X', hL, e1, e2, ⟨u, hp, hb, hF⟩, hce, hcv, hcl, st⟩
  · cases hv
    obtain ⟨k1, k2, k3⟩ := vx_keep h0 e1 hS hA hf hL hF
    obtain ⟨t2, a1, b1⟩ := kk r u t T'.heap (locs ++ L) e1.symm (by rw [← e2]; exact X'.warmed.alike) hp hb k1 k2 k3 T' rfl X'
    exact ⟨t2, st t2 a1, b1⟩
  · obtain ⟨k1, k2, k3⟩ := vx_keep h0 e1 hS hAX hf hL hF
    obtain ⟨t2, a1, b1⟩ := kx E ce q u t T'.heap (locs ++ L) e1.symm (by rw [← e2]; exact X'.warmed.alike) hp hb k1 k2 k3 (by rw [e1]; exact hce) hcv hcl T' rfl X'
    exact ⟨t2, st.trans a1, b1⟩
theorem vx_callv {S SX : Type} {post : S → Prop} {px : SX → Prop} {B : S → State → Prop} {BX : String → SX → State → Prop} {AX : Nat → Prop} (hr : vx_Run p l e R s m args below meth c H locs cells slots mc ms (F0 m pc ls st0) rest (va_Qv post B A1 a) (vx_X px BX AX) free) (hS : va_S A0 H0 H locs) (hA : ∀ q, q < H.size → A1 q → A0 q) (hf : ∀ q, free q → A0 q) (hAX : ∀ q, q < H.size → AX q → A0 q)
    (kx : ∀ (E : String) (ce : Cell) (q9 : Addr) (u : SX) (t : State) (H1 : Heap) (locs1 : List Loc), t.heap = H1 → s.vm.Alike t.vm → px u → BX E u t → H.size ≤ H1.size → (∀ q : Nat, q < H.size → ¬ AX q → H1[q]? = H[q]?) → va_S A0 H0 H1 locs1 → H1[q9]? = some ce → ce.vm = .none → s.vm.findClass E = some ce.cls → vx_W p l e R s m args below meth c H1 locs1 (cells + mc) (slots + ms) Q (F0 m pc ls rest) q9)
    (kk : ∀ (u : S) (t : State) (H1 : Heap) (locs1 : List Loc), t.heap = H1 → s.vm.Alike t.vm → post u → B u t → H.size ≤ H1.size → (∀ q : Nat, q < H.size → ¬ A1 q → H1[q]? = H[q]?) → va_S A0 H0 H1 locs1 → W p l e R s m args below meth c H1 locs1 (cells + mc) (slots + ms) Q (F0 m (pc + 3) ls (rest))) : W p l e R s m args below meth c H locs cells slots Q (F0 m pc ls st0) := by
  intro T hT X
  rcases hr T hT X with ⟨v, st₀, t, T', L, h0, X', hL, e1, e2, ⟨⟨u, hv, hp, hb⟩, hF⟩, st⟩ | ⟨q, st₀, t, T', L, E, ce, h0, X', hL, e1, e2, ⟨u, hp, hb, hF⟩, hce, hcv, hcl, st⟩
  · cases hv
    obtain ⟨k1, k2, k3⟩ := vx_keep h0 e1 hS hA hf hL hF
    obtain ⟨t2, a1, b1⟩ := kk u t T'.heap (locs ++ L) e1.symm (by rw [← e2]; exact X'.warmed.alike) hp hb k1 k2 k3 T' rfl X'
    exact ⟨t2, st t2 a1, b1⟩
  · obtain ⟨k1, k2, k3⟩ := vx_keep h0 e1 hS hAX hf hL hF
    obtain ⟨t2, a1, b1⟩ := kx E ce q u t T'.heap (locs ++ L) e1.symm (by rw [← e2]; exact X'.warmed.alike) hp hb k1 k2 k3 (by rw [e1]; exact hce) hcv hcl T' rfl X'
    exact ⟨t2, st.trans a1, b1⟩
/-- caught by the row x of this method's table; the rows ahead don't take it -/
theorem vx_catch {own name : String} {E : String} {ce : Cell} {q : Addr} (hown : s.vm.findClass own = some m.cls) (pre : List ExceptionTableEntry) (x : ExceptionTableEntry) (suf : List ExceptionTableEntry) (hsplit : c.exceptionTable.toList = pre ++ x :: suf)
    (hpass : ∀ z ∈ pre, covers z pc = false ∨ (z.catchType ≠ 0 ∧ ∃ nm : String, (Cond.classLink own z.catchType nm).before args s = true ∧ va_Nc E nm s)) (hx : covers x pc = true) (h0 : x.catchType ≠ 0)
    (hlink : (Cond.classLink own x.catchType name).before args s = true) (hcast : (Cond.castable E name).before args s = true) (hcell : H[q]? = some ce) (hv : ce.vm = .none) (hcl : s.vm.findClass E = some ce.cls)
    (kk : W p l e R s m args below meth c H locs cells slots Q (F0 m x.handlerPc ls [.ref q])) : vx_W p l e R s m args below meth c H locs cells slots Q (F0 m pc ls rest) q := by
  intro T hT X
  have hpl : e.platform.magicAccessors = ({} : Platform).magicAccessors := by rw [X.admits.platform]
  obtain ⟨c3, c4, hc3, hc4, hasg⟩ := Cond.castable_spec hcast
  cases Option.some.inj (hc3.symm.trans hcl)
  obtain ⟨c5, hc5, hcl5⟩ := Cond.classLink_spec hown hlink e.platform hpl
  cases Option.some.inj (hc4.symm.trans hc5)
  obtain ⟨vm', X', st⟩ := X.thenCaughtThrough q (g := F0 m pc ls rest) rfl (Steps.refl _) (by rw [hT]; exact hcell) (by rw [hv]; rfl) (by obtain ⟨k9, h9, -⟩ := Vm.findClass_spec hcl; exact ⟨k9, h9⟩) pre x suf hsplit
    (fun z hz => by
      rcases hpass z hz with h | ⟨hz0, nm, hl1, hn1⟩
      · exact Or.inl h
      · obtain ⟨c6, hc6, hcl6⟩ := Cond.classLink_spec hown hl1 e.platform hpl
        obtain ⟨a8, b8, h1, h2, h3⟩ := hn1
        cases Option.some.inj (h1.symm.trans hcl)
        cases Option.some.inj (h2.symm.trans hc6)
        exact Or.inr ⟨hz0, _, hcl6, h3⟩) hx (Or.inr ⟨h0, c4, hcl5, hasg⟩)
  obtain ⟨t, a1, b1⟩ := kk (T.setVm vm') hT X'
  exact ⟨t, st.trans a1, b1⟩
end Rows
section Ends
variable {p : Program} {l : Launch} {e : Env} {R : Room} {s : State} {m : MethodId} {args : Array Value} {below : List Frame} {meth : Method} {c : Code} {H : Heap} {locs : List Loc} {cells slots : Nat} {Q : State → Prop}
variable {mc ms : Nat} {free : Addr → Prop} {A0 A1 : Nat → Prop} {H0 : Heap} {a : Array Value} {ls : Array Slot} {st0 rest : List Value}
variable {Qc : Array Value → State → Outcome → State → Prop} {XC : String → State → State → Prop}
/-- what a body that may throw owes at its end -/
def vx_MQ (below : List Frame) (Qc : Array Value → State → Outcome → State → Prop) (XC : String → State → State → Prop) (a : Array Value) (s : State) (mc ms : Nat) (free : Addr → Prop) : State → Prop := fun t =>
  ∃ o, t.status = .running ∧ Ended t below o ∧ vx_Q Qc XC mc ms free a s o t
theorem vx_ret {g : JFrame} {mc ms : Nat} (k : W p l e R s m args below meth c H locs cells slots (MQ below Qc args s mc ms free) g) : W p l e R s m args below meth c H locs cells slots (vx_MQ below Qc XC args s mc ms free) g := by
  intro T hT X
  obtain ⟨t, a1, o, b1, b2, b3, b4⟩ := k T hT X
  exact ⟨t, a1, o, b1, b2, Or.inl ⟨b3, b4⟩⟩
/-- not caught here: it goes on to the caller -/
theorem vx_widen {g : JFrame} {q : Addr} {k n : Nat} (h1 : cells ≤ k) (h2 : slots ≤ n) (kk : vx_W p l e R s m args below meth c H locs k n Q g q) : vx_W p l e R s m args below meth c H locs cells slots Q g q := fun T hT X => kk T hT (stand_widen X h1 h2)
theorem vx_out {pc : Nat} {E : String} {ce : Cell} {q : Addr} {mc ms : Nat} (hout : ∀ x ∈ c.exceptionTable.toList, covers x pc = false) (hlocks : meth.locks = false) (hcell : H[q]? = some ce) (hv : ce.vm = .none) (hcl : s.vm.findClass E = some ce.cls)
    (hx : ∀ t : State, t.heap = H → s.vm.Alike t.vm → XC E s t) (hf : ∀ z ∈ locs, free z.base) (hc : cells ≤ mc) (hs : slots ≤ ms) :
    vx_W p l e R s m args below meth c H locs cells slots (vx_MQ below Qc XC args s mc ms free) (F0 m pc ls rest) q := by
  intro T hT X
  obtain ⟨st1, hrun, hend, hW, hsm⟩ := X.leaveThrown q (g := F0 m pc ls rest) rfl rfl rfl hout hlocks
  have hcell9 : (T.setFrames (.throwing q :: below)).heap[q]? = some ce := by
    show T.heap[q]? = some ce
    rw [hT]; exact hcell
  exact ⟨_, st1, .threw q, hrun, hend, Or.inr ⟨q, rfl, E, ce, locs, hx _ hT hW.alike, hcell9, hv, hcl, hW, hsm.mono hc hs, hf⟩⟩
theorem vx_frame {U : State} {k n : Nat} (h : s.sameButNew ({ U with vm := s.vm } : State) locs k n) : s.heap.size ≤ U.heap.size ∧ ∀ q : Nat, q < s.heap.size → (∀ z ∈ locs, z.base ≠ q) → U.heap[q]? = s.heap[q]? := by
  obtain ⟨-, h2, -, -, -, h6⟩ := h
  refine ⟨h2, fun q hq hz => ?_⟩
  obtain ⟨c9, e1, e2, e3, e4⟩ := h6 q _ (Array.getElem?_eq_getElem hq)
  have hs : c9.slots = (s.heap[q]).slots := Array.ext_getElem? fun i => e4 i fun hm => hz _ hm rfl
  have h9 : c9 = s.heap[q] := by
    rw [hs] at e2
    exact e2
  have e5 : U.heap[q]? = some c9 := e1
  rw [e5, h9, Array.getElem?_eq_getElem hq]
/-- the words of a throw but the four that speak of the heap -/
def vx_no (w : Cond) : Bool := decide (w ≠ .isRef (.static Bundle.tN "UNASSIGNED_STACK" Bundle.steD)) && decide (w ≠ .isRef (.static Bundle.tN "SUPPRESSED_SENTINEL" Bundle.listD)) && decide (w ≠ .laysStatic Bundle.tN "UNASSIGNED_STACK" Bundle.steD) && decide (w ≠ .laysStatic Bundle.tN "SUPPRESSED_SENTINEL" Bundle.listD)
def vx_at0 (own : String) (ic : Nat) (X : String) (names : List String) : List Cond := (Bundle.ownAtoms0 own ic X names).filter vx_no
def vx_atS (own : String) (ic : Nat) (X : String) (names : List String) : List Cond := (Bundle.ownAtoms own ic X names).filter vx_no
/-- a word that the tables alone decide, or a good one -/
def vx_ot (w : Cond) : Bool := w.onTables || goodWord w
theorem vx_ot_at {args a' : Array Value} {s U : State} {w : Cond} (hW : s.WarmedH U.vm) (hvm : s.vm = U.vm) (hg : vx_ot w = true) (h : w.before args s = true) : w.before a' U = true := by
  simp only [vx_ot, Bool.or_eq_true] at hg
  rcases hg with hg | hg
  · exact va_tabs hg hvm h
  · exact word_at hW (good_of_word hg) h
/-- a list's words: the good ones out of the method's own list, the others by premises of their own -/
theorem vx_hat {args : Array Value} {s : State} {L B : List Cond} (h1 : ∀ w ∈ L.filter goodWord, w.before args s = true) (h2 : ∀ w ∈ L.filter (fun w => !goodWord w), w ∈ B) (h3 : ∀ w ∈ B, w.before args s = true) : ∀ w ∈ L, w.before args s = true := by
  intro w hw
  by_cases g : goodWord w = true
  · exact h1 w (List.mem_filter.mpr ⟨hw, g⟩)
  · refine h3 w (h2 w (List.mem_filter.mpr ⟨hw, ?_⟩))
    show (!goodWord w) = true
    cases hgw : goodWord w
    · rfl
    · exact absurd hgw g
theorem vx_c {args : Array Value} {s : State} {w : Cond} {B : List Cond} (h : w.before args s = true) (t : ∀ w ∈ B, w.before args s = true) : ∀ w' ∈ w :: B, w'.before args s = true := fun w' h' => (List.mem_cons.mp h').elim (fun e => by rw [e]; exact h) (t w')
theorem vx_n {args : Array Value} {s : State} : ∀ w ∈ ([] : List Cond), w.before args s = true := fun _ h => nomatch h
theorem vx_own {args : Array Value} {s : State} {L : List Cond} (h1 : ∀ w ∈ L.filter vx_no, w.before args s = true)
    (hU : (Cond.isRef (.static Bundle.tN "UNASSIGNED_STACK" Bundle.steD)).before args s = true) (hN : (Cond.isRef (.static Bundle.tN "SUPPRESSED_SENTINEL" Bundle.listD)).before args s = true)
    (lU : (Cond.laysStatic Bundle.tN "UNASSIGNED_STACK" Bundle.steD).before args s = true) (lN : (Cond.laysStatic Bundle.tN "SUPPRESSED_SENTINEL" Bundle.listD).before args s = true) : ∀ w ∈ L, w.before args s = true := by
  intro w hw
  by_cases e1 : w = .isRef (.static Bundle.tN "UNASSIGNED_STACK" Bundle.steD)
  · rw [e1]; exact hU
  · by_cases e2 : w = .isRef (.static Bundle.tN "SUPPRESSED_SENTINEL" Bundle.listD)
    · rw [e2]; exact hN
    · by_cases e3 : w = .laysStatic Bundle.tN "UNASSIGNED_STACK" Bundle.steD
      · rw [e3]; exact lU
      · by_cases e4 : w = .laysStatic Bundle.tN "SUPPRESSED_SENTINEL" Bundle.listD
        · rw [e4]; exact lN
        · exact h1 w (List.mem_filter.mpr ⟨hw, by unfold vx_no; rw [decide_eq_true e1, decide_eq_true e2, decide_eq_true e3, decide_eq_true e4]; rfl⟩)
/-- where a static field lies, its class's statics cell in H -/
def vx_L (C n d : String) (A : Nat → Prop) (U : State) (H : Heap) : Prop := ∃ (c : ClassId) (k : Class) (i : Nat) (f : Field) (a : Nat) (cell : Cell), U.vm.findClass C = some c ∧ U.fieldFound? C n d = some (c, k, i, f) ∧ f.isStatic = true ∧ k.statics = some a ∧ H[a]? = some cell ∧ cell.vm.isStatics = true ∧ cell.cls = c ∧ f.slot < cell.slots.size ∧ k.staticTypes[f.slot]? = some f.type ∧ ¬ A a
theorem vx_L.moved {C n d : String} {A : Nat → Prop} {u U : State} {H : Heap} (hvm : u.vm.Alike U.vm) (h : vx_L C n d A u H) : vx_L C n d A U H := by
  obtain ⟨c, k, i, f, a, cell, h1, h2, h3, h4, h5, h6, h7, h8, h9, h10⟩ := h
  obtain ⟨k', hi', he⟩ := State.fieldFound?_setVm hvm h2
  exact ⟨c, k', i, f, a, cell, by rw [hvm.findClass]; exact h1, hi', h3, by rw [he]; exact h4, h5, h6, h7, h8, by rw [he]; exact h9, h10⟩
theorem vx_L.kept {C n d : String} {A : Nat → Prop} {U : State} {H H1 : Heap} (h : vx_L C n d A U H) (hq : ∀ a : Nat, a < H.size → ¬ A a → H1[a]? = H[a]?) : vx_L C n d A U H1 := by
  obtain ⟨c, k, i, f, a, cell, h1, h2, h3, h4, h5, h6, h7, h8, h9, h10⟩ := h
  exact ⟨c, k, i, f, a, cell, h1, h2, h3, h4, by rw [hq a (Array.getElem?_eq_some_iff.mp h5).1 h10]; exact h5, h6, h7, h8, h9, h10⟩
theorem vx_L.narrow {C n d : String} {A B : Nat → Prop} {U : State} {H : Heap} (h : vx_L C n d A U H) (hAB : ∀ q, B q → A q) : vx_L C n d B U H := by
  obtain ⟨c, k, i, f, a, cell, h1, h2, h3, h4, h5, h6, h7, h8, h9, h10⟩ := h
  exact ⟨c, k, i, f, a, cell, h1, h2, h3, h4, h5, h6, h7, h8, h9, fun z => h10 (hAB _ z)⟩
theorem vx_L.word {C n d : String} {A : Nat → Prop} {s : State} {args : Array Value} (h : vx_L C n d A s s.heap) : (Cond.laysStatic C n d).before args s = true := by
  obtain ⟨c, k, i, f, a, cell, h1, h2, h3, h4, h5, h6, h7, h8, h9, -⟩ := h
  show (Cond.laysStatic C n d).holds args s none s [] = true
  exact Cond.laysStatic_of h1 h2 h3 h4 h5 h6 h7 h8 h9
/-- .. and what it holds: null or some reference -/
def vx_Zq (C n d : String) (A : Nat → Prop) (U : State) (H : Heap) : Prop := va_Zq C n d A U H ∧ vx_L C n d A U H
theorem vx_Zq.moved {C n d : String} {A : Nat → Prop} {u U : State} {H : Heap} (hvm : u.vm.Alike U.vm) (h : vx_Zq C n d A u H) : vx_Zq C n d A U H := ⟨va_Zq.moved hvm h.1, vx_L.moved hvm h.2⟩
theorem vx_Zq.kept {C n d : String} {A : Nat → Prop} {U : State} {H H1 : Heap} (h : vx_Zq C n d A U H) (hq : ∀ a : Nat, a < H.size → ¬ A a → H1[a]? = H[a]?) : vx_Zq C n d A U H1 := ⟨va_Zq.kept h.1 hq, vx_L.kept h.2 hq⟩
theorem vx_Zq.narrow {C n d : String} {A B : Nat → Prop} {U : State} {H : Heap} (h : vx_Zq C n d A U H) (hAB : ∀ q, B q → A q) : vx_Zq C n d B U H := ⟨va_Zq.narrow h.1 hAB, vx_L.narrow h.2 hAB⟩
theorem vx_Zqof {args : Array Value} {s : State} {C n d : String} {A : Nat → Prop} (hl : (Cond.laysStatic C n d).before args s = true) (hini : (Cond.initialized C).before args s = true) (h : (Cond.isRef (.static C n d)).before args s = true) (hA : ∀ a : Nat, a < s.heap.size → ¬ A a) : vx_Zq C n d A s s.heap := by
  refine ⟨va_Zqof hl hini h hA, ?_⟩
  obtain ⟨c, k, i, f, a, cell, h1, h2, h3, h4, h5, h6, h7, h8, h9⟩ := Cond.laysStatic_spec hl
  exact ⟨c, k, i, f, a, cell, h1, h2, h3, h4, h5, h6, h7, h8, h9, hA a (Array.getElem?_eq_some_iff.mp h5).1⟩
theorem vx_isRef {C n d : String} {v : Value} {A : Nat → Prop} {s : State} {args : Array Value} (h : va_Z C n d v A s s.heap) (hv : v.isRef = true) : (Cond.isRef (.static C n d)).before args s = true := by
  obtain ⟨cf, kf, fi, f, a, cell, h1, h2, h3, h4, h5, h6, h7, -⟩ := h
  have he : (Term.static C n d).eval args s none [] s = some v := by
    simp [Term.eval, State.fieldNamed?, h1, h2, h4, h5, h6, h7]
  simp only [Cond.before, Cond.holds, Cond.value, he]
  cases v <;> simp_all [Value.isRef]
theorem vx_isRefq {C n d : String} {A : Nat → Prop} {s : State} {args : Array Value} (h : va_Zq C n d A s s.heap) : (Cond.isRef (.static C n d)).before args s = true := by
  rcases h with h | ⟨t, h⟩
  · exact vx_isRef h rfl
  · exact vx_isRef h rfl
/-- the same frame, seen from here: as if the method were called anew in this heap -/
theorem vx_rebase {T : State} (X : Stand p l e R s m args below meth c T locs cells slots) {R' : Room} (hf : R'.frames ≤ R.frames) (hl : R'.locals ≤ R.locals) (hc : cells + R'.cells ≤ R.cells) (hs : slots + R'.slots ≤ R.slots) :
    Stand p l e R' ((T.setVm s.vm).setFrames (.invoking m args :: below)) m args below meth c T [] 0 0 := by
  have htop : (T.setVm s.vm).topJava?.isSome := X.here.top
  have hF : ((T.setVm s.vm).setFrames (.invoking m args :: below)).frames = .invoking m args :: below := State.frames_setFrames _ (State.cur_lt_of_top htop)
  obtain ⟨g₀, hg0⟩ := Option.isSome_iff_exists.mp htop
  obtain ⟨r, hr⟩ := State.topJava?_eq_some.mp hg0
  have hl9 : e.platform.stackLimits (T.setVm s.vm).me = e.platform.stackLimits s.me := X.limits
  have hb9 : (T.setVm s.vm).me.stackBytes = s.me.stackBytes := X.bytes
  refine ⟨X.admits, X.cas, X.clock, hF, ?_, X.hears, X.method, X.code, X.here, X.tail, X.warmed, ?_, ?_, ?_⟩
  · have h := X.room
    have hU : ((T.setVm s.vm).setFrames (.invoking m args :: below)).localsInUse = s.localsInUse := by
      rw [State.localsInUse_invoking hF (meth := meth) (c := c) X.method X.code, State.localsInUse_invoking X.frames X.method X.code]
    simp only [State.hasRoom, Bool.and_eq_true, decide_eq_true_eq] at h ⊢
    obtain ⟨⟨⟨⟨h1, h2, h3, h4, h5, h6⟩, h7⟩, h8⟩, h9⟩ := h
    rw [X.frames, List.length_cons] at h2 h3
    have q1 := X.heapSize
    have q2 := X.used
    simp only [hF, hU, List.length_cons, State.stackLimits_setFrames, State.stackBytes_setFrames, hl9, hb9]
    refine ⟨⟨⟨⟨by omega, by omega, by omega, by omega, by omega, h6⟩, ?_⟩, ?_⟩, X.book⟩
    · show T.heap.size + R'.cells ≤ e.platform.maxCells
      omega
    · show T.slotsUsed + R'.slots ≤ e.platform.maxSlots
      omega
  · rw [State.stackLimits_setFrames]; rfl
  · rw [State.stackBytes_setFrames]; rfl
  · refine ⟨?_, Nat.le_refl _, Nat.le_refl _, ?_, ?_, fun a c9 h9 => ⟨c9, h9, rfl, rfl, fun _ _ => rfl⟩⟩
    · obtain ⟨t, ht, -⟩ := State.frames_cons hr
      show T.setVm s.vm = { ((T.setVm s.vm).setFrames (.invoking m args :: below)).setFrames (T.setVm s.vm).frames with heap := T.heap, slotsUsed := T.slotsUsed }
      rw [State.setFrames_setFrames, State.setFrames_self ht]
      rfl
    · show T.slotsUsed = T.slotsUsed + ((T.heap.toList.drop T.heap.size).map (·.slots.size)).sum
      rw [List.drop_eq_nil_of_le (Nat.le_of_eq Array.length_toList)]
      rfl
    · show ((T.heap.toList.drop T.heap.size).map (·.slots.size)).sum ≤ 0
      rw [List.drop_eq_nil_of_le (Nat.le_of_eq Array.length_toList)]
      exact Nat.le_refl _
/-- 'throw new E()': new; dup; invokespecial; athrow -/
theorem vx_throw0 {cc : ByteArray} {pc : Nat} (hexec : p.tables.exec = Jvm.exec) (hb : c.code = cc) (hl : l.stackTraces = false) {own cls : String} {names : List String} {ik ic mc ms : Nat} {A : Nat → Prop}
    (hown : s.vm.findClass own = some m.cls) (hcls : Bundle.fit cls = true) (hnames : ∀ n ∈ names, Bundle.fit n = true)
    (hk : (Cond.classLink own ik cls).before args s = true) (hini : (Cond.initialized cls).before args s = true) (hat : ∀ w ∈ vx_at0 own ic cls names, w.before args s = true)
    (hgood : ∀ w ∈ Cond.classLink own ik cls :: Cond.initialized cls :: vx_at0 own ic cls names, vx_ot w = true)
    (hU : vx_Zq Bundle.tN "UNASSIGNED_STACK" Bundle.steD A s s.heap) (hN : vx_Zq Bundle.tN "SUPPRESSED_SENTINEL" Bundle.listD A s s.heap) (hS : va_S A s.heap H locs) (hsize : ls.size = c.maxLocals)
    (d0 : decode cc pc = .ok (.new ik, 3)) (d3 : decode cc (pc + 3) = .ok (.dup, 1)) (d4 : decode cc (pc + 4) = .ok (.invokespecial ic, 3)) (d7 : decode cc (pc + 7) = .ok (.athrow, 1))
    (hout : ∀ x ∈ c.exceptionTable.toList, covers x (pc + 7) = false)
    (hRframes : names.length + 3 < R.frames) (hRlocals : (rest.map fun v => v.category).sum + (13 * (names.length + 1) + 42) ≤ R.locals) (hRcells : cells + 1 ≤ R.cells) (hRslots : slots + 6 ≤ R.slots) (hlocks : meth.locks = false)
    (hx : ∀ t : State, s.vm.Alike t.vm → H.size ≤ t.heap.size → (∀ q : Nat, q < H.size → t.heap[q]? = H[q]?) → XC cls s t)
    (hf : ∀ z ∈ locs, free z.base) (hc : cells + 1 ≤ mc) (hs : slots + 6 ≤ ms) :
    W p l e R s m args below meth c H locs cells slots (vx_MQ below Qc XC args s mc ms free) (F0 m pc ls rest) := by
  intro T hT X
  have htr : e.platform.stackTraces = false := (show e.platform.stackTraces = l.stackTraces by rw [X.admits.platform]).trans hl
  have Y := vx_rebase X (R' := { frames := R.frames, locals := R.locals, cells := 1, slots := 6 }) (Nat.le_refl _) (Nat.le_refl _) hRcells hRslots
  obtain ⟨s', hA⟩ : ∃ z, z = (T.setVm s.vm).setFrames (.invoking m args :: below) := ⟨_, rfl⟩
  rw [← hA] at Y
  have hvm : s'.vm = s.vm := by rw [hA]; rfl
  have hhp : s'.heap = H := by rw [hA]; exact hT
  have hW0 : s.WarmedH s'.vm := by rw [hvm]; exact State.WarmedH.refl s
  have hat' : ∀ w ∈ vx_at0 own ic cls names, w.before args s' = true := fun w hw => vx_ot_at hW0 hvm.symm (hgood w (List.mem_cons_of_mem _ (List.mem_cons_of_mem _ hw))) (hat w hw)
  have hk' : (Cond.classLink own ik cls).before args s' = true := vx_ot_at hW0 hvm.symm (hgood _ List.mem_cons_self) hk
  have hini' : (Cond.initialized cls).before args s' = true := vx_ot_at hW0 hvm.symm (hgood _ (List.mem_cons_of_mem _ List.mem_cons_self)) hini
  have hU' : vx_Zq Bundle.tN "UNASSIGNED_STACK" Bundle.steD A s' s'.heap := by rw [hhp]; exact vx_Zq.moved hW0.alike (hU.kept hS.2.1)
  have hN' : vx_Zq Bundle.tN "SUPPRESSED_SENTINEL" Bundle.listD A s' s'.heap := by rw [hhp]; exact vx_Zq.moved hW0.alike (hN.kept hS.2.1)
  have h : ∀ w ∈ Bundle.ownAtoms0 own ic cls names, w.before args s' = true := vx_own hat' (vx_isRefq hU'.1) (vx_isRefq hN'.1) hU'.2.word hN'.2.word
  have hown' : s'.vm.findClass own = some m.cls := by rw [hvm]; exact hown
  have hins : (Cond.instantiable cls 6).before args s' = true := h _ (by simp [Bundle.ownAtoms0])
  obtain ⟨vm₁, cX, kX, hfX, hkX, -, -, X₁, st1⟩ := Y.newCold hexec (own := own) (C := cls) (index := ik) (n := 6) hown' hk' hins hini'
    (g := F0 m pc ls rest) rfl (by rw [hb]; exact d0) (Nat.le_refl _) (Nat.le_refl _)
  generalize hT1 : (T.setVm vm₁).pushCell { cls := cX, slots := kX.instanceTypes.map defaultValue, vm := .none } = T1 at X₁ st1
  have hcat : (Value.ref T.heap.size).category = 1 := rfl
  have hcellA : T1.heap[T.heap.size]? = some (freshCell cX kX) := by rw [← hT1]; exact State.heap_pushCell_size _ _
  have d3' : decode c.code (pc + 3) = .ok (.dup, 1) := by rw [hb]; exact d3
  obtain ⟨U, hsteps, hrun, hend, hW, hsame, ce, hce, hO⟩ := X₁.ctorThrow0 hexec htr (own := own) (cls := cls) (names := names) (ic := ic) hown' hcls hnames h (fun x hx => nomatch hx) hfX hkX hcellA (by rw [hhp, hT]; exact Nat.le_refl _)
    (g := { method := m, pc := pc + 4, locals := ls, stack := .ref T.heap.size :: .ref T.heap.size :: rest, locked := none }) rfl hsize rfl rfl (rest := rest) rfl
    (by rw [hb]; exact d4) (by rw [hb]; exact d7) hout hRframes (by simp only [List.map_cons, List.sum_cons, hcat]; omega) hlocks
  obtain ⟨f1, f2⟩ := vx_frame hsame
  rw [hhp] at f1 f2
  have hWs : s.WarmedH U.vm := State.WarmedH.trans hW0 hW
  have hcl : s.vm.findClass cls = some ce.cls := by
    have h9 := hO.cls
    rw [hvm] at h9
    exact h9
  have hall : s.sameButNew ({ U with vm := s.vm } : State) locs mc ms := by
    subst hA
    obtain ⟨e1, e2⟩ := hsame
    rw [State.setFrames_setFrames] at e1
    have h2 : (T.setVm s.vm).sameButNew ({ U with vm := s.vm } : State) [] (0 + 1) (0 + 6) := ⟨e1, e2⟩
    have h3 := X.same.trans h2
    rw [List.append_nil] at h3
    exact h3.mono hc hs
  refine ⟨U, ?_, .threw T.heap.size, hrun, hend, Or.inr ⟨T.heap.size, rfl, cls, ce, locs, hx U hWs.alike f1 (fun q hq => f2 q hq (fun z hz => nomatch hz)), hce, hO.vm, hcl, hWs, hall, hf⟩⟩
  refine st1 _ ?_
  show Steps p.tables e below (T1.setTop { method := m, pc := pc + 3, locals := ls, stack := .ref T.heap.size :: rest, locked := none }) _
  jvm_step X₁.here [X₁.here.top, hexec, d3', Value.category]
  exact hsteps
/-- 'throw new E("text")': new; dup; ldc; invokespecial; athrow -/
theorem vx_throwS {cc : ByteArray} {pc : Nat} (hexec : p.tables.exec = Jvm.exec) (hb : c.code = cc) (hl : l.stackTraces = false) {own cls text : String} {names : List String} {ik is ic mc ms sa : Nat} {A : Nat → Prop}
    (hown : s.vm.findClass own = some m.cls) (hcls : Bundle.fit cls = true) (hnames : ∀ n ∈ names, Bundle.fit n = true)
    (hk : (Cond.classLink own ik cls).before args s = true) (hini : (Cond.initialized cls).before args s = true) (hstr : vk_R own is text sa s) (hat : ∀ w ∈ vx_atS own ic cls names, w.before args s = true)
    (hgood : ∀ w ∈ Cond.classLink own ik cls :: Cond.initialized cls :: vx_atS own ic cls names, vx_ot w = true)
    (hU : vx_Zq Bundle.tN "UNASSIGNED_STACK" Bundle.steD A s s.heap) (hN : vx_Zq Bundle.tN "SUPPRESSED_SENTINEL" Bundle.listD A s s.heap) (hS : va_S A s.heap H locs) (hsize : ls.size = c.maxLocals)
    (d0 : decode cc pc = .ok (.new ik, 3)) (d3 : decode cc (pc + 3) = .ok (.dup, 1)) (d4 : decode cc (pc + 4) = .ok (.ldc is, 2)) (d6 : decode cc (pc + 6) = .ok (.invokespecial ic, 3)) (d9 : decode cc (pc + 9) = .ok (.athrow, 1))
    (hout : ∀ x ∈ c.exceptionTable.toList, covers x (pc + 9) = false)
    (hRframes : names.length + 3 < R.frames) (hRlocals : (rest.map fun v => v.category).sum + (13 * (names.length + 1) + 43) ≤ R.locals) (hRcells : cells + 1 ≤ R.cells) (hRslots : slots + 6 ≤ R.slots) (hlocks : meth.locks = false)
    (hx : ∀ t : State, s.vm.Alike t.vm → H.size ≤ t.heap.size → (∀ q : Nat, q < H.size → t.heap[q]? = H[q]?) → XC cls s t)
    (hf : ∀ z ∈ locs, free z.base) (hc : cells + 1 ≤ mc) (hs : slots + 6 ≤ ms) :
    W p l e R s m args below meth c H locs cells slots (vx_MQ below Qc XC args s mc ms free) (F0 m pc ls rest) := by
  intro T hT X
  have htr : e.platform.stackTraces = false := (show e.platform.stackTraces = l.stackTraces by rw [X.admits.platform]).trans hl
  have Y := vx_rebase X (R' := { frames := R.frames, locals := R.locals, cells := 1, slots := 6 }) (Nat.le_refl _) (Nat.le_refl _) hRcells hRslots
  obtain ⟨s', hA⟩ : ∃ z, z = (T.setVm s.vm).setFrames (.invoking m args :: below) := ⟨_, rfl⟩
  rw [← hA] at Y
  have hvm : s'.vm = s.vm := by rw [hA]; rfl
  have hhp : s'.heap = H := by rw [hA]; exact hT
  have hW0 : s.WarmedH s'.vm := by rw [hvm]; exact State.WarmedH.refl s
  have hat' : ∀ w ∈ vx_atS own ic cls names, w.before args s' = true := fun w hw => vx_ot_at hW0 hvm.symm (hgood w (List.mem_cons_of_mem _ (List.mem_cons_of_mem _ hw))) (hat w hw)
  have hk' : (Cond.classLink own ik cls).before args s' = true := vx_ot_at hW0 hvm.symm (hgood _ List.mem_cons_self) hk
  have hini' : (Cond.initialized cls).before args s' = true := vx_ot_at hW0 hvm.symm (hgood _ (List.mem_cons_of_mem _ List.mem_cons_self)) hini
  have hU' : vx_Zq Bundle.tN "UNASSIGNED_STACK" Bundle.steD A s' s'.heap := by rw [hhp]; exact vx_Zq.moved hW0.alike (hU.kept hS.2.1)
  have hN' : vx_Zq Bundle.tN "SUPPRESSED_SENTINEL" Bundle.listD A s' s'.heap := by rw [hhp]; exact vx_Zq.moved hW0.alike (hN.kept hS.2.1)
  have h : ∀ w ∈ Bundle.ownAtoms own ic cls names, w.before args s' = true := vx_own hat' (vx_isRefq hU'.1) (vx_isRefq hN'.1) hU'.2.word hN'.2.word
  have hown' : s'.vm.findClass own = some m.cls := by rw [hvm]; exact hown
  have hins : (Cond.instantiable cls 6).before args s' = true := h _ (by simp [Bundle.ownAtoms])
  obtain ⟨vm₁, cX, kX, hfX, hkX, -, -, X₁, st1⟩ := Y.newCold hexec (own := own) (C := cls) (index := ik) (n := 6) hown' hk' hins hini'
    (g := F0 m pc ls rest) rfl (by rw [hb]; exact d0) (Nat.le_refl _) (Nat.le_refl _)
  generalize hT1 : (T.setVm vm₁).pushCell { cls := cX, slots := kX.instanceTypes.map defaultValue, vm := .none } = T1 at X₁ st1
  have hcat : (Value.ref T.heap.size).category = 1 := rfl
  have hcellA : T1.heap[T.heap.size]? = some (freshCell cX kX) := by rw [← hT1]; exact State.heap_pushCell_size _ _
  have d3' : decode c.code (pc + 3) = .ok (.dup, 1) := by rw [hb]; exact d3
  have d4' : decode c.code (pc + 4) = .ok (.ldc is, 2) := by rw [hb]; exact d4
  have hstr' : vk_R own is text sa s' := vk_R.warm hW0 hstr
  obtain ⟨U, hsteps, hrun, hend, hW, hsame, ce, hce, hO⟩ := X₁.ctorThrowS hexec htr (own := own) (cls := cls) (names := names) (ic := ic) hown' hcls hnames h (fun x hx => nomatch hx) hfX hkX hcellA (by rw [hhp, hT]; exact Nat.le_refl _) (msg := .ref sa) rfl
    (g := { method := m, pc := pc + 6, locals := ls, stack := .ref sa :: .ref T.heap.size :: .ref T.heap.size :: rest, locked := none }) rfl hsize rfl rfl (rest := rest) rfl
    (by rw [hb]; exact d6) (by rw [hb]; exact d9) hout hRframes (by simp only [List.map_cons, List.sum_cons, hcat]; omega) hlocks
  obtain ⟨f1, f2⟩ := vx_frame hsame
  rw [hhp] at f1 f2
  have hWs : s.WarmedH U.vm := State.WarmedH.trans hW0 hW
  have hcl : s.vm.findClass cls = some ce.cls := by
    have h9 := hO.cls
    rw [hvm] at h9
    exact h9
  have hall : s.sameButNew ({ U with vm := s.vm } : State) locs mc ms := by
    subst hA
    obtain ⟨e1, e2⟩ := hsame
    rw [State.setFrames_setFrames] at e1
    have h2 : (T.setVm s.vm).sameButNew ({ U with vm := s.vm } : State) [] (0 + 1) (0 + 6) := ⟨e1, e2⟩
    have h3 := X.same.trans h2
    rw [List.append_nil] at h3
    exact h3.mono hc hs
  refine ⟨U, ?_, .threw T.heap.size, hrun, hend, Or.inr ⟨T.heap.size, rfl, cls, ce, locs, hx U hWs.alike f1 (fun q hq => f2 q hq (fun z hz => nomatch hz)), hce, hO.vm, hcl, hWs, hall, hf⟩⟩
  refine st1 _ ?_
  show Steps p.tables e below (T1.setTop { method := m, pc := pc + 3, locals := ls, stack := .ref T.heap.size :: rest, locked := none }) _
  jvm_step X₁.here [X₁.here.top, hexec, d3', Value.category]
  exact X₁.ldcString hexec (own := own) (text := text) (index := is) (a := sa) hown' hstr'.1 hstr'.2
    (g := { method := m, pc := pc + 4, locals := ls, stack := .ref T.heap.size :: .ref T.heap.size :: rest, locked := none }) rfl d4' _ hsteps
/-- 'throw new E("text")', the text by a wide index -/
theorem vx_throwSW {cc : ByteArray} {pc : Nat} (hexec : p.tables.exec = Jvm.exec) (hb : c.code = cc) (hl : l.stackTraces = false) {own cls text : String} {names : List String} {ik is ic mc ms sa : Nat} {A : Nat → Prop}
    (hown : s.vm.findClass own = some m.cls) (hcls : Bundle.fit cls = true) (hnames : ∀ n ∈ names, Bundle.fit n = true)
    (hk : (Cond.classLink own ik cls).before args s = true) (hini : (Cond.initialized cls).before args s = true) (hstr : vk_R own is text sa s) (hat : ∀ w ∈ vx_atS own ic cls names, w.before args s = true)
    (hgood : ∀ w ∈ Cond.classLink own ik cls :: Cond.initialized cls :: vx_atS own ic cls names, vx_ot w = true)
    (hU : vx_Zq Bundle.tN "UNASSIGNED_STACK" Bundle.steD A s s.heap) (hN : vx_Zq Bundle.tN "SUPPRESSED_SENTINEL" Bundle.listD A s s.heap) (hS : va_S A s.heap H locs) (hsize : ls.size = c.maxLocals)
    (d0 : decode cc pc = .ok (.new ik, 3)) (d3 : decode cc (pc + 3) = .ok (.dup, 1)) (d4 : decode cc (pc + 4) = .ok (.ldc_w is, 3)) (d7 : decode cc (pc + 7) = .ok (.invokespecial ic, 3)) (d10 : decode cc (pc + 10) = .ok (.athrow, 1))
    (hout : ∀ x ∈ c.exceptionTable.toList, covers x (pc + 10) = false)
    (hRframes : names.length + 3 < R.frames) (hRlocals : (rest.map fun v => v.category).sum + (13 * (names.length + 1) + 43) ≤ R.locals) (hRcells : cells + 1 ≤ R.cells) (hRslots : slots + 6 ≤ R.slots) (hlocks : meth.locks = false)
    (hx : ∀ t : State, s.vm.Alike t.vm → H.size ≤ t.heap.size → (∀ q : Nat, q < H.size → t.heap[q]? = H[q]?) → XC cls s t)
    (hf : ∀ z ∈ locs, free z.base) (hc : cells + 1 ≤ mc) (hs : slots + 6 ≤ ms) :
    W p l e R s m args below meth c H locs cells slots (vx_MQ below Qc XC args s mc ms free) (F0 m pc ls rest) := by
  intro T hT X
  have htr : e.platform.stackTraces = false := (show e.platform.stackTraces = l.stackTraces by rw [X.admits.platform]).trans hl
  have Y := vx_rebase X (R' := { frames := R.frames, locals := R.locals, cells := 1, slots := 6 }) (Nat.le_refl _) (Nat.le_refl _) hRcells hRslots
  obtain ⟨s', hA⟩ : ∃ z, z = (T.setVm s.vm).setFrames (.invoking m args :: below) := ⟨_, rfl⟩
  rw [← hA] at Y
  have hvm : s'.vm = s.vm := by rw [hA]; rfl
  have hhp : s'.heap = H := by rw [hA]; exact hT
  have hW0 : s.WarmedH s'.vm := by rw [hvm]; exact State.WarmedH.refl s
  have hat' : ∀ w ∈ vx_atS own ic cls names, w.before args s' = true := fun w hw => vx_ot_at hW0 hvm.symm (hgood w (List.mem_cons_of_mem _ (List.mem_cons_of_mem _ hw))) (hat w hw)
  have hk' : (Cond.classLink own ik cls).before args s' = true := vx_ot_at hW0 hvm.symm (hgood _ List.mem_cons_self) hk
  have hini' : (Cond.initialized cls).before args s' = true := vx_ot_at hW0 hvm.symm (hgood _ (List.mem_cons_of_mem _ List.mem_cons_self)) hini
  have hU' : vx_Zq Bundle.tN "UNASSIGNED_STACK" Bundle.steD A s' s'.heap := by rw [hhp]; exact vx_Zq.moved hW0.alike (hU.kept hS.2.1)
  have hN' : vx_Zq Bundle.tN "SUPPRESSED_SENTINEL" Bundle.listD A s' s'.heap := by rw [hhp]; exact vx_Zq.moved hW0.alike (hN.kept hS.2.1)
  have h : ∀ w ∈ Bundle.ownAtoms own ic cls names, w.before args s' = true := vx_own hat' (vx_isRefq hU'.1) (vx_isRefq hN'.1) hU'.2.word hN'.2.word
  have hown' : s'.vm.findClass own = some m.cls := by rw [hvm]; exact hown
  have hins : (Cond.instantiable cls 6).before args s' = true := h _ (by simp [Bundle.ownAtoms])
  obtain ⟨vm₁, cX, kX, hfX, hkX, -, -, X₁, st1⟩ := Y.newCold hexec (own := own) (C := cls) (index := ik) (n := 6) hown' hk' hins hini'
    (g := F0 m pc ls rest) rfl (by rw [hb]; exact d0) (Nat.le_refl _) (Nat.le_refl _)
  generalize hT1 : (T.setVm vm₁).pushCell { cls := cX, slots := kX.instanceTypes.map defaultValue, vm := .none } = T1 at X₁ st1
  have hcat : (Value.ref T.heap.size).category = 1 := rfl
  have hcellA : T1.heap[T.heap.size]? = some (freshCell cX kX) := by rw [← hT1]; exact State.heap_pushCell_size _ _
  have d3' : decode c.code (pc + 3) = .ok (.dup, 1) := by rw [hb]; exact d3
  have d4' : decode c.code (pc + 4) = .ok (.ldc_w is, 3) := by rw [hb]; exact d4
  have hstr' : vk_R own is text sa s' := vk_R.warm hW0 hstr
  obtain ⟨U, hsteps, hrun, hend, hW, hsame, ce, hce, hO⟩ := X₁.ctorThrowS hexec htr (own := own) (cls := cls) (names := names) (ic := ic) hown' hcls hnames h (fun x hx => nomatch hx) hfX hkX hcellA (by rw [hhp, hT]; exact Nat.le_refl _) (msg := .ref sa) rfl
    (g := { method := m, pc := pc + 7, locals := ls, stack := .ref sa :: .ref T.heap.size :: .ref T.heap.size :: rest, locked := none }) rfl hsize rfl rfl (rest := rest) rfl
    (by rw [hb]; exact d7) (by rw [hb]; exact d10) hout hRframes (by simp only [List.map_cons, List.sum_cons, hcat]; omega) hlocks
  obtain ⟨f1, f2⟩ := vx_frame hsame
  rw [hhp] at f1 f2
  have hWs : s.WarmedH U.vm := State.WarmedH.trans hW0 hW
  have hcl : s.vm.findClass cls = some ce.cls := by
    have h9 := hO.cls
    rw [hvm] at h9
    exact h9
  have hall : s.sameButNew ({ U with vm := s.vm } : State) locs mc ms := by
    subst hA
    obtain ⟨e1, e2⟩ := hsame
    rw [State.setFrames_setFrames] at e1
    have h2 : (T.setVm s.vm).sameButNew ({ U with vm := s.vm } : State) [] (0 + 1) (0 + 6) := ⟨e1, e2⟩
    have h3 := X.same.trans h2
    rw [List.append_nil] at h3
    exact h3.mono hc hs
  refine ⟨U, ?_, .threw T.heap.size, hrun, hend, Or.inr ⟨T.heap.size, rfl, cls, ce, locs, hx U hWs.alike f1 (fun q hq => f2 q hq (fun z hz => nomatch hz)), hce, hO.vm, hcl, hWs, hall, hf⟩⟩
  refine st1 _ ?_
  show Steps p.tables e below (T1.setTop { method := m, pc := pc + 3, locals := ls, stack := .ref T.heap.size :: rest, locked := none }) _
  jvm_step X₁.here [X₁.here.top, hexec, d3', Value.category]
  exact X₁.ldcStringW hexec (own := own) (text := text) (index := is) (a := sa) hown' hstr'.1 hstr'.2
    (g := { method := m, pc := pc + 4, locals := ls, stack := .ref T.heap.size :: .ref T.heap.size :: rest, locked := none }) rfl d4' _ hsteps
end Ends
section Bodies
variable {l : Launch}
theorem vx_ofW {y : MethodName} {ws ws' : List Cond} {rm : Room} {Pc : Array Value → State → Prop} {Qc : Array Value → State → Outcome → State → Prop} {XC : String → State → State → Prop} {mc ms : Nat} {free : Addr → Prop} {cc : ByteArray} {maxL : Nat} {ret : Option FieldType}
    (hy : plainName y.cls = true) (hw : ws = Cond.code y cc maxL ret :: ws')
    (body : ∀ p e s m args below meth c s₁, BodyLoose p l y (headSpec ws rm) cc maxL ret e s m args below meth c s₁ → c.maxLocals = maxL → (∀ x ∈ c.exceptionTable.toList, False) → Pc args s →
      W p l e (headSpec ws rm).room s m args below meth c s.heap [] 0 0 (vx_MQ below Qc XC args s mc ms free) (entryFrame m args maxL)) : vx_Met l y ws rm Pc Qc XC mc ms free := by
  refine MetFree.of_bodyS (code := cc) (maxLocals := maxL) (ret := ret) hy ?_ ?_
  · intro args s m h hn
    obtain ⟨meth, c, h1, h2, h3, h4, h5, h6, -, -⟩ := Cond.code_spec hn (atoms_spec (ws := ws) h _ (by rw [hw]; exact List.mem_cons_self))
    exact ⟨meth, c, h1, h2, h3, h4, h5, h6⟩
  · intro p e s m args below meth c s₁ B hml hP _
    have hh0 : s₁.heap = s.heap := by rw [B.state]; rfl
    have ht : ∀ x ∈ c.exceptionTable.toList, False := by
      obtain ⟨meth9, c9, h1, h2, -, -, -, -, h7, -⟩ := Cond.code_spec B.named (atoms_spec (ws := ws) B.pre _ (by rw [hw]; exact List.mem_cons_self))
      cases Option.some.inj (h1.symm.trans B.method)
      cases Option.some.inj (h2.symm.trans (Stand.of_body B).code)
      intro x hx
      rw [Array.isEmpty_iff.mp h7] at hx
      cases hx
    obtain ⟨t, a1, o, b1, b2, b3⟩ := body p e s m args below meth c s₁ B hml ht hP s₁ hh0 (Stand.of_body B)
    exact ⟨t, o, a1, b1, b2, b3⟩
/-- the table of a body with handlers -/
theorem vx_table {p : Program} {x y : MethodName} {S : Spec} {cc bytes : ByteArray} {maxL maxL' : Nat} {ret ret' : Option FieldType} {e : Env} {s s₁ : State} {m : MethodId} {args : Array Value} {below : List Frame} {meth : Method} {c : Code} {hh : List (Nat × Nat × Nat × Nat)}
    (B : BodyLoose p l y S cc maxL ret e s m args below meth c s₁) (h : (Cond.codeWith y bytes maxL' ret' hh).before args s = true) : c.exceptionTable.toList = tableOf hh := by
  obtain ⟨m9, meth9, c9, hn9, h1, h2, -, -, h6, -⟩ := Cond.codeWith_spec h
  cases Option.some.inj (hn9.symm.trans B.named)
  cases Option.some.inj (h1.symm.trans B.method)
  cases Option.some.inj (h2.symm.trans (Stand.of_body B).code)
  rw [← h6, table_eq]
end Bodies
end VXA
/-! ===== END ===== -/
/-! ===== BEGIN a static call of a method with an exception table ===== -/
section VXS
variable {p : Program} {l : Launch} {e : Env} {R : Room} {s : State} {m : MethodId} {args : Array Value} {below : List Frame} {meth : Method} {c : Code} {T : State} {H : Heap} {locs : List Loc} {cells slots : Nat}
abbrev vx_CSW (R : Room) (s : State) (args : Array Value) (own : String) (index : Nat) (y : MethodName) (bytes : ByteArray) (maxL : Nat) (ret : Option FieldType) (hh : List (Nat × Nat × Nat × Nat)) (ws : List Cond) (rm : Room) (mc ms n : Nat) : Prop :=
  (rm.cells = mc ∧ rm.slots = ms ∧ rm.frames + 1 ≤ R.frames ∧ 8 + (maxL + 11) + rm.locals ≤ R.locals ∧ (∀ w ∈ ws, ∀ (a' : Array Value) (U : State), s.WarmedH U.vm → w.before a' U = true) ∧ Cond.codeWith y bytes maxL ret hh ∈ ws) ∧
  (Cond.codeWith y bytes maxL ret hh).before args s = true ∧ (Cond.initialized y.cls).before args s = true ∧ (y.cls ≠ "java/lang/invoke/MethodHandle" ∧ y.cls ≠ "java/lang/invoke/VarHandle") ∧
  (∀ sig, parseMethodDescriptor y.desc = some sig → n = sig.parameters.length) ∧ (Cond.methodLink own index y).before args s = true ∧ (Cond.static y).before args s = true
theorem vx_cwSW {own : String} {index maxL mc ms : Nat} {y : MethodName} {bytes : ByteArray} {ret : Option FieldType} {hh : List (Nat × Nat × Nat × Nat)} {Ts ws ws' : List Cond} {rm : Room} (n : Nat) (ht : ∀ w ∈ Ts, w.before args s = true) (hT : GoodIn Ts (va_wsS own index y ws)) (hw : ws = Cond.codeWith y bytes maxL ret hh :: ws') (hrc : rm.cells = mc) (hrs : rm.slots = ms)
    (hd : y.cls ≠ "java/lang/invoke/MethodHandle" ∧ y.cls ≠ "java/lang/invoke/VarHandle" ∧ (parseMethodDescriptor y.desc).map (fun d => d.parameters.length) = some n) (hR : rm.frames + 1 ≤ R.frames ∧ 8 + (maxL + 11) + rm.locals ≤ R.locals) :
    vx_CSW R s args own index y bytes maxL ret hh ws rm mc ms n := by
  have ok : ∀ w ∈ va_wsS own index y ws, w.before args s = true := fun w h => ht w (hT w h).1
  have hG : GoodIn Ts ws := fun w h => hT w (by unfold va_wsS; exact List.mem_append_right _ h)
  have hc : Cond.codeWith y bytes maxL ret hh ∈ ws := by rw [hw]; exact List.mem_cons_self
  refine ⟨⟨hrc, hrs, hR.1, hR.2, pay_in ht hG, hc⟩, ht _ (hG _ hc).1, ok _ (by simp [va_wsS]), ⟨hd.1, hd.2.1⟩, fun sig h => ?_, ok _ (by simp [va_wsS]), ok _ (by simp [va_wsS])⟩
  have h2 := hd.2.2
  rw [h] at h2
  exact (Option.some.inj h2).symm
theorem vx_callSW (X : Stand p l e R s m args below meth c T locs cells slots) (hexec : p.tables.exec = Jvm.exec) {own : String} {index : Nat} {y : MethodName} {bytes : ByteArray} {maxL : Nat} {ret : Option FieldType} {hh : List (Nat × Nat × Nat × Nat)}
    (hown : s.vm.findClass own = some m.cls) (hlink : (Cond.methodLink own index y).before args s = true) (hstat : (Cond.static y).before args s = true) (hinit : (Cond.initialized y.cls).before args s = true)
    (hcode : (Cond.codeWith y bytes maxL ret hh).before args s = true) (hy : y.cls ≠ "java/lang/invoke/MethodHandle" ∧ y.cls ≠ "java/lang/invoke/VarHandle")
    {W9 : Nat} {Pre : Pt → Array Value → Prop} {Post : Pt → Array Value → Option Value → Pt → Prop} (hK : Back l R p e below s args y 3 W9 Pre Post)
    {g : JFrame} (hg : g.method = m) (hsize : g.locals.size = c.maxLocals) {argsL rest : List Value} (hlen : ∀ sig, parseMethodDescriptor y.desc = some sig → argsL.length = sig.parameters.length)
    (hstack : g.stack = argsL.reverse ++ rest) (hW : 2 * g.monitorRoom + (rest.map fun v => v.category).sum ≤ W9) (hdg : decode c.code g.pc = .ok (.invokestatic index, 3))
    (hpre : ∀ vm₁, s.WarmedH vm₁ → Pre ⟨T.setVm vm₁, locs, cells, slots⟩ argsL.toArray) :
    ∃ (v : Option Value) (vm₁ : Vm) (B : Pt), s.WarmedH vm₁ ∧ Stand p l e R s m args below meth c B.U B.locs B.cells B.slots ∧ Post ⟨T.setVm vm₁, locs, cells, slots⟩ argsL.toArray v B ∧
      ∀ target, Steps p.tables e below (B.U.setTop { g with pc := g.pc + 3, stack := v.toList ++ rest }) target → Steps p.tables e below (T.setTop g) target := by
  obtain ⟨mk, methM, cM, hnamed, hmethM, -, -, -, -, -, -, hsigM⟩ := Cond.codeWith_spec hcode
  have hstatic : methM.isStatic = true := Cond.static_spec hnamed hmethM hstat
  obtain ⟨kP, hkP, -⟩ := className_of_methodNamed hnamed
  have hinitP : kP.init = .initialized := Cond.initialized_spec (findClass_of_methodNamed hnamed) hkP hinit
  obtain ⟨vm₁, X₁, hstep₁⟩ := X.invokestatic hexec hown hlink hnamed hmethM hstatic hkP hinitP hy (g := g) hg (argsL := argsL) (rest := rest) (hlen _ hsigM) hstack hdg
  obtain ⟨v, B, X', hpost, hsteps⟩ := hK m meth c ⟨T.setVm vm₁, locs, cells, slots⟩ { g with stack := rest } (.invokestatic index) mk argsL.toArray X₁ hg hsize hdg hW (X₁.named hnamed) (hpre vm₁ X₁.warmed)
  exact ⟨v, vm₁, B, X₁.warmed, X', hpost, fun target h => hstep₁ _ fun acts => by rw [doInvoke_state]; exact hsteps.trans h⟩
theorem vx_runSW {y : MethodName} {bytes cc : ByteArray} {maxL nL mc ms n index : Nat} {ret : Option FieldType} {hh : List (Nat × Nat × Nat × Nat)} {ws : List Cond} {rm : Room} {Pc : Array Value → State → Prop} {Qc : Array Value → State → Outcome → State → Prop} {free : Addr → Prop} {Ts : List Cond} {own : String} {As rest : List Value} {g : JFrame}
    (S : CallFix p m c cc nL s args Ts own) (hM : Met l y ws rm Pc Qc mc ms free) (cw : vx_CSW R s args own index y bytes maxL ret hh ws rm mc ms n) (hp : PreS s H Pc As)
    (hg : g.method = m) (hn : As.length = n) (hsize : g.locals.size = nL) (hstack : g.stack = As.reverse ++ rest) (hW : 2 * g.monitorRoom + (rest.map fun v => v.category).sum ≤ 8) (hdg : decode cc g.pc = .ok (.invokestatic index, 3)) (hf : cells + mc ≤ R.cells ∧ slots + ms ≤ R.slots) :
    va_Run p l e R s m args below meth c H locs cells slots mc ms g rest (Qc As.toArray) (free) := by
  obtain ⟨⟨hrc, hrs, hfr, hlo, hws, hcw⟩, hcode, hini, hy, hlen, hl, hstt⟩ := cw
  have hK : Back l R p e below s args y 3 8 (PreOf R mc ms Pc) (PostOf Qc mc ms free) := va_backW (hh := hh) (bytes := bytes) (maxL := maxL) (ret := ret) hM hp.1 hrc hrs hfr hlo hws hcw (fun a' U hW => word_at hW (Or.inl (by first | rfl | simp [Cond.onTables, Cond.keeps, Cond.steady])) hini)
  obtain ⟨hx, hb, hml, ho, -⟩ := S
  intro T hT X
  obtain ⟨v, vm₁, ⟨U', l2, c2, s2⟩, hW₁, X', ⟨g', mk, t, L, e1, e2, hq, h1, hL, h2, h3⟩, st⟩ := vx_callSW X hx (hh := hh) (bytes := bytes) (maxL := maxL) (ret := ret) ho hl hstt hini hcode hy hK hg (hsize.trans hml.symm) (argsL := As) (rest := rest) (fun sig h => hn.trans (hlen sig h)) hstack hW (by rw [hb]; exact hdg)
    (fun vm₁ hW₁ => ⟨hf.1, hf.2, hp.2 (T.setVm vm₁) hT hW₁⟩)
  dsimp only [Pt.U, Pt.locs, Pt.cells, Pt.slots] at X' e1 e2 h1 h2 h3 st
  subst h1; subst h2; subst h3
  exact ⟨v, (T.setVm vm₁).calling g' mk As.toArray, t, U', L, hT, X', hL, e1, e2, hq, st⟩
/-- not caught here, past rows that name other classes: it goes on to the caller -/
theorem vx_outP {p : Program} {l : Launch} {e : Env} {R : Room} {s : State} {m : MethodId} {args : Array Value} {below : List Frame} {meth : Method} {c : Code} {H : Heap} {locs : List Loc} {cells slots : Nat} {free : Addr → Prop} {ls : Array Slot} {rest : List Value} {Qc : Array Value → State → Outcome → State → Prop} {XC : String → State → State → Prop}
    {pc : Nat} {own E : String} {ce : Cell} {q : Addr} {mc ms : Nat} (hown : s.vm.findClass own = some m.cls) (hlocks : meth.locks = false)
    (hpass : ∀ z ∈ c.exceptionTable.toList, covers z pc = false ∨ (z.catchType ≠ 0 ∧ ∃ nm : String, (Cond.classLink own z.catchType nm).before args s = true ∧ va_Nc E nm s)) (hcell : H[q]? = some ce) (hv : ce.vm = .none) (hcl : s.vm.findClass E = some ce.cls)
    (hx : ∀ t : State, t.heap = H → s.vm.Alike t.vm → XC E s t) (hf : ∀ z ∈ locs, free z.base) (hc : cells ≤ mc) (hs : slots ≤ ms) :
    vx_W p l e R s m args below meth c H locs cells slots (vx_MQ below Qc XC args s mc ms free) (F0 m pc ls rest) q := by
  intro T hT X
  have hpl : e.platform.magicAccessors = ({} : Platform).magicAccessors := by rw [X.admits.platform]
  obtain ⟨vm', hW', X', st⟩ := X.outThrough hlocks q (g := F0 m pc ls rest) rfl rfl rfl (cell := ce) (by rw [hT]; exact hcell) (by rw [hv]; rfl)
    (by obtain ⟨k9, h9, -⟩ := Vm.findClass_spec hcl; exact ⟨k9, h9⟩) (fun z hz => by
      rcases hpass z hz with h | ⟨hz0, nm, hl1, hn1⟩
      · exact Or.inl h
      · obtain ⟨c6, hc6, hcl6⟩ := Cond.classLink_spec hown hl1 e.platform hpl
        obtain ⟨a8, b8, h1, h2, h3⟩ := hn1
        cases Option.some.inj (h1.symm.trans hcl)
        cases Option.some.inj (h2.symm.trans hc6)
        exact Or.inr ⟨hz0, _, hcl6, h3⟩)
  obtain ⟨g₀, hfr⟩ := X'.frames_eq
  have hcell9 : ((T.setVm vm').setFrames (.throwing q :: below)).heap[q]? = some ce := by
    show T.heap[q]? = some ce
    rw [hT]; exact hcell
  have hend : Ended ((T.setVm vm').setFrames (.throwing q :: below)) below (.threw q) := State.frames_setFrames _ (State.cur_lt_of_frames hfr)
  refine ⟨(T.setVm vm').setFrames (.throwing q :: below), ?_, .threw q, X'.here.running, hend, Or.inr ⟨q, rfl, E, ce, locs, hx _ hT (X'.ends _).1.alike, hcell9, hv, hcl, (X'.ends _).1, (X'.ends _).2.mono hc hs, hf⟩⟩
  rw [X.pushThrowing_eq]
  exact st
/-- a thing of a world lies in the heap -/
theorem vx_lt {D : va_G} {cl : List vw_C} {ws : va_W} {H1 : Heap} (h : va_P D cl ws H1) {k : Nat} {q : Nat × va_E} (hk : ws[k]? = some q) : q.1 < H1.size := (h k q hk).lt
end VXS
/-! ===== END ===== -/
/-! ===== BEGIN methods with a table of their own: called by a name, returning or throwing ===== -/
section VXH
/-! vx_backW, vx_callVX, vx_callSX, vx_callVW, vx_runVW, vx_runVX, vx_runSX, vx_ofWH follow the same proofs as their sisters above (Free/Laws.lean, Shelf42/LK1.lean); vx_outP calls Shelf42/NT130.lean (outThrough). -/
section
variable {l : Launch} {R : Room} {p : Program} {e : Env} {below : List Frame} {s : State} {sargs : Array Value} {y : MethodName} {len W9 : Nat}
theorem vx_backW {ws : List Cond} {rm : Room} {Pc : Array Value → State → Prop} {Qc : Array Value → State → Outcome → State → Prop} {XC : String → State → State → Prop} {mc ms : Nat} {free : Addr → Prop} {bytes : ByteArray} {maxL : Nat} {ret : Option FieldType} {hh : List (Nat × Nat × Nat × Nat)}
    (hM : vx_Met l y ws rm Pc Qc XC mc ms free) (hblind : FrameBlind Pc) (hrc : rm.cells = mc) (hrs : rm.slots = ms)
    (hframes : rm.frames + 1 ≤ R.frames) (hlocals : W9 + (maxL + 11) + rm.locals ≤ R.locals)
    (hws : ∀ w ∈ ws, ∀ a' U, s.WarmedH U.vm → w.before a' U = true) (hcode : Cond.codeWith y bytes maxL ret hh ∈ ws) (hinit : ∀ a' U, s.WarmedH U.vm → (Cond.initialized y.cls).before a' U = true) :
    vx_Back l R p e below s sargs y len W9 (PreOf R mc ms Pc) (PostOf Qc mc ms free) (vx_Post XC mc ms free) := by
  intro m meth c A g ig mk a X hg hsize hdg hW hn hp
  have h1 : (headSpec ws rm).pre.before a A.U = true := atoms_intro fun w hw => hws w hw _ _ X.warmed
  have h2 : (Cond.codeWith y bytes maxL ret hh).before a A.U = true := hws _ hcode _ _ X.warmed
  have h3 : (Cond.initialized y.cls).before a A.U = true := hinit _ _ X.warmed
  have h4 : A.cells + (headSpec ws rm).room.cells ≤ R.cells := by rw [show (headSpec ws rm).room.cells = mc from hrc]; exact hp.1
  have h5 : A.slots + (headSpec ws rm).room.slots ≤ R.slots := by rw [show (headSpec ws rm).room.slots = ms from hrs]; exact hp.2.1
  have hPc : Pc a (A.U.calling g mk a) := hblind _ _ _ _ hp.2.2
  obtain ⟨U, Ls, c0, s0⟩ := A
  dsimp only [Pt.U, Pt.locs, Pt.cells, Pt.slots] at h1 h2 h3 h4 h5 X hn hPc ⊢
  obtain ⟨m9, methY, cY, hn9, hmY, hcY, -, hlY, -⟩ := Cond.codeWith_spec h2
  cases Option.some.inj (hn9.symm.trans hn)
  obtain ⟨kY, hkY, -⟩ := className_of_methodNamed hn
  have hinitY : kY.init = .initialized := Cond.initialized_spec (findClass_of_methodNamed hn) hkY h3
  have h : At U g.method c below := by rw [hg]; exact X.here
  have hlocals9 : W9 + (maxL + 11) + (headSpec ws rm).room.locals ≤ R.locals := hlocals
  have happ : (headSpec ws rm).appliesLoose y e.platform (U.calling g mk a) = true :=
    Spec.appliesLoose_calling (g := g) h hdg hn hkY hinitY
      (X.room_calling (g := g) (R' := (headSpec ws rm).room) hsize hmY hcY hframes (by rw [hlY]; omega) h4 h5) h1
  obtain ⟨mid, hmid⟩ := h.above
  have hfr : (U.setTop g).frames = (.java g :: mid) ++ below := by rw [State.frames_setTop' g h.top, hmid]; rfl
  obtain ⟨o, s₂, hsteps, -, hend, hq⟩ := Steps.callFree hM p X.admits X.cas X.clock (acts := []) hfr happ hPc trivial
  have hq' : vx_Q Qc XC mc ms free a (U.calling g mk a) o s₂ := hq
  rw [State.frames_setTop' g h.top] at hend
  obtain ⟨g₀, hg0⟩ := Option.isSome_iff_exists.mp h.top
  obtain ⟨r, hr⟩ := State.topJava?_eq_some.mp hg0
  have hr' : (({ U with heap := s₂.heap, slotsUsed := s₂.slotsUsed } : State).setVm s₂.vm).frames = .java g₀ :: r := hr
  rcases hq' with ⟨hqc, L, hfe, hL⟩ | ⟨q, rfl, E, ce, L, hx, hce, hcv, hcl, hW₂, hsm, hL⟩
  · obtain ⟨⟨v, rfl⟩, hW₂, e2, q2, q3, q4, q5, q6⟩ := id hfe
    have e3 : s₂ = ({ (U.calling g mk a).setFrames s₂.frames with heap := s₂.heap, slotsUsed := s₂.slotsUsed } : State).setVm s₂.vm := by
      have : s₂ = ({ s₂ with vm := (U.calling g mk a).vm } : State).setVm s₂.vm := rfl
      rw [e2] at this
      exact this
    obtain ⟨c₂, i₂, len₂, hc₂, hd₂, hf₂⟩ := hend
    have hW' : U.WarmedH s₂.vm := hW₂
    have hcc : c₂ = c := by
      have h1 : s₂.code? g.method = U.code? g.method := by
        rw [State.code?_eq, State.code?_eq, hW'.alike.method?]
      exact Option.some.inj (hc₂.symm.trans (h1.trans h.code))
    subst hcc
    have hlen : len₂ = len := by rw [hdg] at hd₂; cases hd₂; rfl
    subst hlen
    have hs₂ : s₂ = (({ U with heap := s₂.heap, slotsUsed := s₂.slotsUsed } : State).setVm s₂.vm).setTop { g with pc := g.pc + len₂, stack := v.toList ++ g.stack } := by
      refine e3.trans ?_
      rw [hf₂, State.calling_eq h.top, State.setFrames_setFrames, State.setTop_of_frames _ hr', hr]
      rfl
    have hsame : U.sameButNew ({ U with heap := s₂.heap, slotsUsed := s₂.slotsUsed } : State) L mc ms := by
      refine ⟨?_, q2, q3, q4, q5, q6⟩
      obtain ⟨t, ht, -⟩ := State.frames_cons hr
      show ({ U with heap := s₂.heap, slotsUsed := s₂.slotsUsed } : State) = { U.setFrames U.frames with heap := s₂.heap, slotsUsed := s₂.slotsUsed }
      rw [State.setFrames_self ht]
    subst hg
    refine Or.inl ⟨v, ⟨(({ U with heap := s₂.heap, slotsUsed := s₂.slotsUsed } : State).setVm s₂.vm), Ls ++ L, c0 + mc, s0 + ms⟩,
      ⟨X.admits, X.cas, X.clock, X.frames, X.room, X.hears, X.method, X.code, (X.here.setHeapUsed s₂.heap s₂.slotsUsed).setVm hW'.alike, X.tail, State.WarmedH.trans X.warmed hW', X.limits, X.bytes, X.same.trans (hsame.setVm s.vm)⟩,
      ⟨g, mk, s₂, L, rfl, rfl, hqc, rfl, hL, rfl, rfl⟩, ?_⟩
    show Steps p.tables e below _ ((({ U with heap := s₂.heap, slotsUsed := s₂.slotsUsed } : State).setVm s₂.vm).setTop { g with pc := g.pc + len₂, stack := v.toList ++ g.stack })
    rw [← hs₂]
    exact hsteps
  · obtain ⟨e2, q2, q3, q4, q5, q6⟩ := id hsm
    have e3 : s₂ = ({ (U.calling g mk a).setFrames s₂.frames with heap := s₂.heap, slotsUsed := s₂.slotsUsed } : State).setVm s₂.vm := by
      have : s₂ = ({ s₂ with vm := (U.calling g mk a).vm } : State).setVm s₂.vm := rfl
      rw [e2] at this
      exact this
    have hf₂ : s₂.frames = .throwing q :: .java g :: U.frames.tail := hend
    have hW' : U.WarmedH s₂.vm := hW₂
    have hs₂ : s₂ = ((({ U with heap := s₂.heap, slotsUsed := s₂.slotsUsed } : State).setVm s₂.vm).setTop g).pushFrame (.throwing q) := by
      refine e3.trans ?_
      rw [hf₂, State.calling_eq h.top, State.setFrames_setFrames, State.pushFrame, State.frames_setTop _ hr', State.setTop_of_frames _ hr', State.setFrames_setFrames, hr]
      rfl
    have hsame : U.sameButNew ({ U with heap := s₂.heap, slotsUsed := s₂.slotsUsed } : State) L mc ms := by
      refine ⟨?_, q2, q3, q4, q5, q6⟩
      obtain ⟨t, ht, -⟩ := State.frames_cons hr
      show ({ U with heap := s₂.heap, slotsUsed := s₂.slotsUsed } : State) = { U.setFrames U.frames with heap := s₂.heap, slotsUsed := s₂.slotsUsed }
      rw [State.setFrames_self ht]
    subst hg
    refine Or.inr ⟨q, ⟨(({ U with heap := s₂.heap, slotsUsed := s₂.slotsUsed } : State).setVm s₂.vm), Ls ++ L, c0 + mc, s0 + ms⟩,
      ⟨X.admits, X.cas, X.clock, X.frames, X.room, X.hears, X.method, X.code, (X.here.setHeapUsed s₂.heap s₂.slotsUsed).setVm hW'.alike, X.tail, State.WarmedH.trans X.warmed hW', X.limits, X.bytes, X.same.trans (hsame.setVm s.vm)⟩,
      ⟨g, mk, s₂, L, E, ce, rfl, rfl, hx, hce, hcv, hcl, rfl, hL, rfl, rfl⟩, ?_⟩
    show Steps p.tables e below _ (((({ U with heap := s₂.heap, slotsUsed := s₂.slotsUsed } : State).setVm s₂.vm).setTop g).pushFrame (.throwing q))
    rw [← hs₂]
    exact hsteps
end
variable {p : Program} {l : Launch} {e : Env} {R : Room} {s : State} {m : MethodId} {args : Array Value} {below : List Frame} {meth : Method} {c : Code} {T : State} {H : Heap} {locs : List Loc} {cells slots : Nat}
theorem vx_callVX (X : Stand p l e R s m args below meth c T locs cells slots) (hexec : p.tables.exec = Jvm.exec) {own C : String} {index : Nat} {y : MethodName} {bytes : ByteArray} {maxL : Nat} {ret : Option FieldType} {hh : List (Nat × Nat × Nat × Nat)}
    (hown : s.vm.findClass own = some m.cls) (hlink : (Cond.methodLink own index y).before args s = true) (hinst : (Cond.instanceMethod y).before args s = true) (hsel : (Cond.selects C y y).before args s = true)
    (hcode : (Cond.codeWith y bytes maxL ret hh).before args s = true) (hy : y.cls ≠ "java/lang/invoke/MethodHandle" ∧ y.cls ≠ "java/lang/invoke/VarHandle")
    {W9 : Nat} {Pre : Pt → Array Value → Prop} {Post : Pt → Array Value → Option Value → Pt → Prop} {PostX : Pt → Array Value → Addr → Pt → Prop} (hK : vx_Back l R p e below s args y 3 W9 Pre Post PostX)
    {b : Addr} {cellB : Cell} (hcell : T.heap[b]? = some cellB) (hobj : cellB.vm.isStatics = false) (hcls : s.vm.findClass C = some cellB.cls)
    {g : JFrame} (hg : g.method = m) (hsize : g.locals.size = c.maxLocals) {argsL rest : List Value} (hlen : ∀ sig, parseMethodDescriptor y.desc = some sig → argsL.length = sig.parameters.length)
    (hstack : g.stack = argsL.reverse ++ .ref b :: rest) (hW : 2 * g.monitorRoom + (rest.map fun v => v.category).sum ≤ W9) (hdg : decode c.code g.pc = .ok (.invokevirtual index, 3))
    (hpre : ∀ vm₁, s.WarmedH vm₁ → Pre ⟨T.setVm vm₁, locs, cells, slots⟩ (Value.ref b :: argsL).toArray) :
    (∃ (v : Option Value) (vm₁ : Vm) (B : Pt), s.WarmedH vm₁ ∧ Stand p l e R s m args below meth c B.U B.locs B.cells B.slots ∧ Post ⟨T.setVm vm₁, locs, cells, slots⟩ (Value.ref b :: argsL).toArray v B ∧
      ∀ target, Steps p.tables e below (B.U.setTop { g with pc := g.pc + 3, stack := v.toList ++ rest }) target → Steps p.tables e below (T.setTop g) target) ∨
    (∃ (q : Addr) (vm₁ : Vm) (B : Pt), s.WarmedH vm₁ ∧ Stand p l e R s m args below meth c B.U B.locs B.cells B.slots ∧ PostX ⟨T.setVm vm₁, locs, cells, slots⟩ (Value.ref b :: argsL).toArray q B ∧
      Steps p.tables e below (T.setTop g) ((B.U.setTop { g with stack := rest }).pushFrame (.throwing q))) := by
  obtain ⟨mk, methM, hnamed, hmethM, hstM, habM⟩ := Cond.instanceMethod_spec hinst
  obtain ⟨m8, methM', cM, hn8, hmethM', -, -, -, -, -, -, hsigM⟩ := Cond.codeWith_spec hcode
  cases Option.some.inj (hn8.symm.trans hnamed)
  cases hmethM.symm.trans hmethM'
  obtain ⟨c2, r2, m2, q1, q2, q3, q4, kP, hkP, hkPi⟩ := Cond.selects_spec hsel
  cases hcls.symm.trans q1
  cases (State.methodFound?_of_named hnamed hy).symm.trans q2
  cases hnamed.symm.trans q3
  have hselP : selectMethod e.platform s.vm cellB.cls mk = .method mk := by rw [Launch.admits_selectMethod X.admits]; exact q4
  obtain ⟨vm₁, X₁, hstep₁⟩ := X.invokevirtual hexec hown hlink hnamed hmethM hstM hkP hkPi hy (a := b) (cell := cellB) hcell
    (fun z h => by rw [h] at hobj; cases hobj) hselP hmethM habM hkP hkPi (g := g) hg (argsL := argsL) (rest := rest) (hlen _ hsigM) hstack hdg
  rcases hK m meth c ⟨T.setVm vm₁, locs, cells, slots⟩ { g with stack := rest } (.invokevirtual index) mk (Value.ref b :: argsL).toArray X₁ hg hsize hdg hW (X₁.named hnamed) (hpre vm₁ X₁.warmed) with ⟨v, B, X', hpost, hsteps⟩ | ⟨q, B, X', hpost, hsteps⟩
  · exact Or.inl ⟨v, vm₁, B, X₁.warmed, X', hpost, fun target h => hstep₁ _ fun acts => by rw [doInvoke_state]; exact hsteps.trans h⟩
  · exact Or.inr ⟨q, vm₁, B, X₁.warmed, X', hpost, hstep₁ _ fun acts => by rw [doInvoke_state]; exact hsteps⟩
theorem vx_callSX (X : Stand p l e R s m args below meth c T locs cells slots) (hexec : p.tables.exec = Jvm.exec) {own : String} {index : Nat} {y : MethodName} {bytes : ByteArray} {maxL : Nat} {ret : Option FieldType} {hh : List (Nat × Nat × Nat × Nat)}
    (hown : s.vm.findClass own = some m.cls) (hlink : (Cond.methodLink own index y).before args s = true) (hstat : (Cond.static y).before args s = true) (hinit : (Cond.initialized y.cls).before args s = true)
    (hcode : (Cond.codeWith y bytes maxL ret hh).before args s = true) (hy : y.cls ≠ "java/lang/invoke/MethodHandle" ∧ y.cls ≠ "java/lang/invoke/VarHandle")
    {W9 : Nat} {Pre : Pt → Array Value → Prop} {Post : Pt → Array Value → Option Value → Pt → Prop} {PostX : Pt → Array Value → Addr → Pt → Prop} (hK : vx_Back l R p e below s args y 3 W9 Pre Post PostX)
    {g : JFrame} (hg : g.method = m) (hsize : g.locals.size = c.maxLocals) {argsL rest : List Value} (hlen : ∀ sig, parseMethodDescriptor y.desc = some sig → argsL.length = sig.parameters.length)
    (hstack : g.stack = argsL.reverse ++ rest) (hW : 2 * g.monitorRoom + (rest.map fun v => v.category).sum ≤ W9) (hdg : decode c.code g.pc = .ok (.invokestatic index, 3))
    (hpre : ∀ vm₁, s.WarmedH vm₁ → Pre ⟨T.setVm vm₁, locs, cells, slots⟩ argsL.toArray) :
    (∃ (v : Option Value) (vm₁ : Vm) (B : Pt), s.WarmedH vm₁ ∧ Stand p l e R s m args below meth c B.U B.locs B.cells B.slots ∧ Post ⟨T.setVm vm₁, locs, cells, slots⟩ argsL.toArray v B ∧
      ∀ target, Steps p.tables e below (B.U.setTop { g with pc := g.pc + 3, stack := v.toList ++ rest }) target → Steps p.tables e below (T.setTop g) target) ∨
    (∃ (q : Addr) (vm₁ : Vm) (B : Pt), s.WarmedH vm₁ ∧ Stand p l e R s m args below meth c B.U B.locs B.cells B.slots ∧ PostX ⟨T.setVm vm₁, locs, cells, slots⟩ argsL.toArray q B ∧
      Steps p.tables e below (T.setTop g) ((B.U.setTop { g with stack := rest }).pushFrame (.throwing q))) := by
  obtain ⟨mk, methM, cM, hnamed, hmethM, -, -, -, -, -, -, hsigM⟩ := Cond.codeWith_spec hcode
  have hstatic : methM.isStatic = true := Cond.static_spec hnamed hmethM hstat
  obtain ⟨kP, hkP, -⟩ := className_of_methodNamed hnamed
  have hinitP : kP.init = .initialized := Cond.initialized_spec (findClass_of_methodNamed hnamed) hkP hinit
  obtain ⟨vm₁, X₁, hstep₁⟩ := X.invokestatic hexec hown hlink hnamed hmethM hstatic hkP hinitP hy (g := g) hg (argsL := argsL) (rest := rest) (hlen _ hsigM) hstack hdg
  rcases hK m meth c ⟨T.setVm vm₁, locs, cells, slots⟩ { g with stack := rest } (.invokestatic index) mk argsL.toArray X₁ hg hsize hdg hW (X₁.named hnamed) (hpre vm₁ X₁.warmed) with ⟨v, B, X', hpost, hsteps⟩ | ⟨q, B, X', hpost, hsteps⟩
  · exact Or.inl ⟨v, vm₁, B, X₁.warmed, X', hpost, fun target h => hstep₁ _ fun acts => by rw [doInvoke_state]; exact hsteps.trans h⟩
  · exact Or.inr ⟨q, vm₁, B, X₁.warmed, X', hpost, hstep₁ _ fun acts => by rw [doInvoke_state]; exact hsteps⟩
theorem vx_callVW (X : Stand p l e R s m args below meth c T locs cells slots) (hexec : p.tables.exec = Jvm.exec) {own C : String} {index : Nat} {y : MethodName} {bytes : ByteArray} {maxL : Nat} {ret : Option FieldType} {hh : List (Nat × Nat × Nat × Nat)}
    (hown : s.vm.findClass own = some m.cls) (hlink : (Cond.methodLink own index y).before args s = true) (hinst : (Cond.instanceMethod y).before args s = true) (hsel : (Cond.selects C y y).before args s = true)
    (hcode : (Cond.codeWith y bytes maxL ret hh).before args s = true) (hy : y.cls ≠ "java/lang/invoke/MethodHandle" ∧ y.cls ≠ "java/lang/invoke/VarHandle")
    {W9 : Nat} {Pre : Pt → Array Value → Prop} {Post : Pt → Array Value → Option Value → Pt → Prop} (hK : Back l R p e below s args y 3 W9 Pre Post)
    {b : Addr} {cellB : Cell} (hcell : T.heap[b]? = some cellB) (hobj : cellB.vm.isStatics = false) (hcls : s.vm.findClass C = some cellB.cls)
    {g : JFrame} (hg : g.method = m) (hsize : g.locals.size = c.maxLocals) {argsL rest : List Value} (hlen : ∀ sig, parseMethodDescriptor y.desc = some sig → argsL.length = sig.parameters.length)
    (hstack : g.stack = argsL.reverse ++ .ref b :: rest) (hW : 2 * g.monitorRoom + (rest.map fun v => v.category).sum ≤ W9) (hdg : decode c.code g.pc = .ok (.invokevirtual index, 3))
    (hpre : ∀ vm₁, s.WarmedH vm₁ → Pre ⟨T.setVm vm₁, locs, cells, slots⟩ (Value.ref b :: argsL).toArray) :
    ∃ (v : Option Value) (vm₁ : Vm) (B : Pt), s.WarmedH vm₁ ∧ Stand p l e R s m args below meth c B.U B.locs B.cells B.slots ∧ Post ⟨T.setVm vm₁, locs, cells, slots⟩ (Value.ref b :: argsL).toArray v B ∧
      ∀ target, Steps p.tables e below (B.U.setTop { g with pc := g.pc + 3, stack := v.toList ++ rest }) target → Steps p.tables e below (T.setTop g) target := by
  obtain ⟨mk, methM, hnamed, hmethM, hstM, habM⟩ := Cond.instanceMethod_spec hinst
  obtain ⟨m8, methM', cM, hn8, hmethM', -, -, -, -, -, -, hsigM⟩ := Cond.codeWith_spec hcode
  cases Option.some.inj (hn8.symm.trans hnamed)
  cases hmethM.symm.trans hmethM'
  obtain ⟨c2, r2, m2, q1, q2, q3, q4, kP, hkP, hkPi⟩ := Cond.selects_spec hsel
  cases hcls.symm.trans q1
  cases (State.methodFound?_of_named hnamed hy).symm.trans q2
  cases hnamed.symm.trans q3
  have hselP : selectMethod e.platform s.vm cellB.cls mk = .method mk := by rw [Launch.admits_selectMethod X.admits]; exact q4
  obtain ⟨vm₁, X₁, hstep₁⟩ := X.invokevirtual hexec hown hlink hnamed hmethM hstM hkP hkPi hy (a := b) (cell := cellB) hcell
    (fun z h => by rw [h] at hobj; cases hobj) hselP hmethM habM hkP hkPi (g := g) hg (argsL := argsL) (rest := rest) (hlen _ hsigM) hstack hdg
  obtain ⟨v, B, X', hpost, hsteps⟩ := hK m meth c ⟨T.setVm vm₁, locs, cells, slots⟩ { g with stack := rest } (.invokevirtual index) mk (Value.ref b :: argsL).toArray X₁ hg hsize hdg hW (X₁.named hnamed) (hpre vm₁ X₁.warmed)
  exact ⟨v, vm₁, B, X₁.warmed, X', hpost, fun target h => hstep₁ _ fun acts => by rw [doInvoke_state]; exact hsteps.trans h⟩
abbrev vx_CVW (R : Room) (s : State) (args : Array Value) (own C : String) (index : Nat) (y : MethodName) (bytes : ByteArray) (maxL : Nat) (ret : Option FieldType) (hh : List (Nat × Nat × Nat × Nat)) (ws : List Cond) (rm : Room) (mc ms n : Nat) : Prop :=
  (rm.cells = mc ∧ rm.slots = ms ∧ rm.frames + 1 ≤ R.frames ∧ 8 + (maxL + 11) + rm.locals ≤ R.locals ∧ (∀ w ∈ ws, ∀ (a' : Array Value) (U : State), s.WarmedH U.vm → w.before a' U = true) ∧ Cond.codeWith y bytes maxL ret hh ∈ ws) ∧
  (Cond.codeWith y bytes maxL ret hh).before args s = true ∧ (Cond.initialized y.cls).before args s = true ∧ (y.cls ≠ "java/lang/invoke/MethodHandle" ∧ y.cls ≠ "java/lang/invoke/VarHandle") ∧
  (∀ sig, parseMethodDescriptor y.desc = some sig → n = sig.parameters.length) ∧ (Cond.methodLink own index y).before args s = true ∧ (Cond.instanceMethod y).before args s = true ∧ (Cond.selects C y y).before args s = true
theorem vx_cwVW {own C : String} {index maxL mc ms : Nat} {y : MethodName} {bytes : ByteArray} {ret : Option FieldType} {hh : List (Nat × Nat × Nat × Nat)} {Ts ws ws' : List Cond} {rm : Room} (n : Nat) (ht : ∀ w ∈ Ts, w.before args s = true) (hT : GoodIn Ts (wsV own index C y ws)) (hw : ws = Cond.codeWith y bytes maxL ret hh :: ws') (hrc : rm.cells = mc) (hrs : rm.slots = ms)
    (hd : y.cls = C ∧ y.cls ≠ "java/lang/invoke/MethodHandle" ∧ y.cls ≠ "java/lang/invoke/VarHandle" ∧ (parseMethodDescriptor y.desc).map (fun d => d.parameters.length) = some n) (hR : rm.frames + 1 ≤ R.frames ∧ 8 + (maxL + 11) + rm.locals ≤ R.locals) :
    vx_CVW R s args own C index y bytes maxL ret hh ws rm mc ms n := by
  obtain ⟨hC, hd⟩ := hd
  subst hC
  have ok : ∀ w ∈ wsV own index y.cls y ws, w.before args s = true := fun w h => ht w (hT w h).1
  have hG : GoodIn Ts ws := fun w h => hT w (by unfold wsV; exact List.mem_append_right _ h)
  have hc : Cond.codeWith y bytes maxL ret hh ∈ ws := by rw [hw]; exact List.mem_cons_self
  refine ⟨⟨hrc, hrs, hR.1, hR.2, pay_in ht hG, hc⟩, ht _ (hG _ hc).1, ok _ (by simp [wsV]), ⟨hd.1, hd.2.1⟩, fun sig h => ?_, ok _ (by simp [wsV]), ok _ (by simp [wsV]), ok _ (by simp [wsV])⟩
  have h2 := hd.2.2
  rw [h] at h2
  exact (Option.some.inj h2).symm
theorem vx_runVW {y : MethodName} {bytes cc : ByteArray} {maxL nL mc ms n index : Nat} {ret : Option FieldType} {hh : List (Nat × Nat × Nat × Nat)} {ws : List Cond} {rm : Room} {Pc : Array Value → State → Prop} {Qc : Array Value → State → Outcome → State → Prop} {free : Addr → Prop} {Ts : List Cond} {own C : String} {b : Addr} {As rest : List Value} {g : JFrame}
    (S : CallFix p m c cc nL s args Ts own) (hM : Met l y ws rm Pc Qc mc ms free) (cw : vx_CVW R s args own C index y bytes maxL ret hh ws rm mc ms n) (hp : PreV s H C b Pc As)
    (hg : g.method = m) (hn : As.length = n) (hsize : g.locals.size = nL) (hstack : g.stack = As.reverse ++ .ref b :: rest) (hW : 2 * g.monitorRoom + (rest.map fun v => v.category).sum ≤ 8) (hdg : decode cc g.pc = .ok (.invokevirtual index, 3)) (hf : cells + mc ≤ R.cells ∧ slots + ms ≤ R.slots) :
    va_Run p l e R s m args below meth c H locs cells slots mc ms g rest (Qc (Value.ref b :: As).toArray) free := by
  obtain ⟨⟨hrc, hrs, hfr, hlo, hws, hcw⟩, hcode, hini, hy, hlen, hl, hin, hse⟩ := cw
  have hK : Back l R p e below s args y 3 8 (PreOf R mc ms Pc) (PostOf Qc mc ms free) := va_backW (hh := hh) (bytes := bytes) (maxL := maxL) (ret := ret) hM hp.1 hrc hrs hfr hlo hws hcw (fun a' U hW => word_at hW (Or.inl (by first | rfl | simp [Cond.onTables, Cond.keeps, Cond.steady])) hini)
  obtain ⟨hx, hb, hml, ho, -⟩ := S
  obtain ⟨-, ⟨cellB, hcB, hoB, hclB⟩, hPc⟩ := hp
  intro T hT X
  obtain ⟨v, vm₁, ⟨U', l2, c2, s2⟩, hW₁, X', ⟨g', mk, t, L, e1, e2, hq, h1, hL, h2, h3⟩, st⟩ := vx_callVW X hx (C := C) (hh := hh) (bytes := bytes) (maxL := maxL) (ret := ret) ho hl hin hse hcode hy hK (by rw [hT]; exact hcB) hoB hclB hg (hsize.trans hml.symm) (argsL := As) (rest := rest) (fun sig h => hn.trans (hlen sig h)) hstack hW (by rw [hb]; exact hdg)
    (fun vm₁ hW₁ => ⟨hf.1, hf.2, hPc (T.setVm vm₁) hT hW₁⟩)
  dsimp only [Pt.U, Pt.locs, Pt.cells, Pt.slots] at X' e1 e2 h1 h2 h3 st
  subst h1; subst h2; subst h3
  exact ⟨v, (T.setVm vm₁).calling g' mk (Value.ref b :: As).toArray, t, U', L, hT, X', hL, e1, e2, hq, st⟩
section
variable {y : MethodName} {bytes cc : ByteArray} {maxL nL mc ms n index : Nat} {ret : Option FieldType} {ws : List Cond} {rm : Room} {Pc : Array Value → State → Prop} {Qc : Array Value → State → Outcome → State → Prop} {XC : String → State → State → Prop} {free : Addr → Prop} {Ts : List Cond} {own C : String} {b : Addr} {As rest : List Value} {g : JFrame}
theorem vx_runVX {hh : List (Nat × Nat × Nat × Nat)} (S : CallFix p m c cc nL s args Ts own) (hM : vx_Met l y ws rm Pc Qc XC mc ms free) (cw : vx_CVW R s args own C index y bytes maxL ret hh ws rm mc ms n) (hp : PreV s H C b Pc As)
    (hg : g.method = m) (hn : As.length = n) (hsize : g.locals.size = nL) (hstack : g.stack = As.reverse ++ .ref b :: rest) (hW : 2 * g.monitorRoom + (rest.map fun v => v.category).sum ≤ 8) (hdg : decode cc g.pc = .ok (.invokevirtual index, 3)) (hf : cells + mc ≤ R.cells ∧ slots + ms ≤ R.slots) :
    vx_Run p l e R s m args below meth c H locs cells slots mc ms g rest (Qc (Value.ref b :: As).toArray) XC free := by
  obtain ⟨⟨hrc, hrs, hfr, hlo, hws, hcw⟩, hcode, hini, hy, hlen, hl, hin, hse⟩ := cw
  have hK : vx_Back l R p e below s args y 3 8 (PreOf R mc ms Pc) (PostOf Qc mc ms free) (vx_Post XC mc ms free) := vx_backW (hh := hh) (bytes := bytes) (maxL := maxL) (ret := ret) hM hp.1 hrc hrs hfr hlo hws hcw (fun a' U hW => word_at hW (Or.inl (by first | rfl | simp [Cond.onTables, Cond.keeps, Cond.steady])) hini)
  obtain ⟨hx, hb, hml, ho, -⟩ := S
  obtain ⟨-, ⟨cellB, hcB, hoB, hclB⟩, hPc⟩ := hp
  intro T hT X
  rcases vx_callVX X hx (C := C) (hh := hh) (bytes := bytes) (maxL := maxL) (ret := ret) ho hl hin hse hcode hy hK (by rw [hT]; exact hcB) hoB hclB hg (hsize.trans hml.symm) (argsL := As) (rest := rest) (fun sig h => hn.trans (hlen sig h)) hstack hW (by rw [hb]; exact hdg)
    (fun vm₁ hW₁ => ⟨hf.1, hf.2, hPc (T.setVm vm₁) hT hW₁⟩) with ⟨v, vm₁, ⟨U', l2, c2, s2⟩, hW₁, X', ⟨g', mk, t, L, e1, e2, hq, h1, hL, h2, h3⟩, st⟩ | ⟨q, vm₁, ⟨U', l2, c2, s2⟩, hW₁, X', ⟨g', mk, t, L, E, ce, e1, e2, hq, hce, hcv, hcl, h1, hL, h2, h3⟩, st⟩
  · dsimp only [Pt.U, Pt.locs, Pt.cells, Pt.slots] at X' e1 e2 h1 h2 h3 st
    subst h1; subst h2; subst h3
    exact Or.inl ⟨v, (T.setVm vm₁).calling g' mk (Value.ref b :: As).toArray, t, U', L, hT, X', hL, e1, e2, hq, st⟩
  · dsimp only [Pt.U, Pt.locs, Pt.cells, Pt.slots] at X' e1 e2 h1 h2 h3 st hcl
    subst h1; subst h2; subst h3
    exact Or.inr ⟨q, (T.setVm vm₁).calling g' mk (Value.ref b :: As).toArray, t, U', L, E, ce, hT, X', hL, e1, e2, hq, hce, hcv, vx_cls hW₁ hcl, st⟩
theorem vx_runSX {hh : List (Nat × Nat × Nat × Nat)} (S : CallFix p m c cc nL s args Ts own) (hM : vx_Met l y ws rm Pc Qc XC mc ms free) (cw : vx_CSW R s args own index y bytes maxL ret hh ws rm mc ms n) (hp : PreS s H Pc As)
    (hg : g.method = m) (hn : As.length = n) (hsize : g.locals.size = nL) (hstack : g.stack = As.reverse ++ rest) (hW : 2 * g.monitorRoom + (rest.map fun v => v.category).sum ≤ 8) (hdg : decode cc g.pc = .ok (.invokestatic index, 3)) (hf : cells + mc ≤ R.cells ∧ slots + ms ≤ R.slots) :
    vx_Run p l e R s m args below meth c H locs cells slots mc ms g rest (Qc As.toArray) XC free := by
  obtain ⟨⟨hrc, hrs, hfr, hlo, hws, hcw⟩, hcode, hini, hy, hlen, hl, hstt⟩ := cw
  have hK : vx_Back l R p e below s args y 3 8 (PreOf R mc ms Pc) (PostOf Qc mc ms free) (vx_Post XC mc ms free) := vx_backW (hh := hh) (bytes := bytes) (maxL := maxL) (ret := ret) hM hp.1 hrc hrs hfr hlo hws hcw (fun a' U hW => word_at hW (Or.inl (by first | rfl | simp [Cond.onTables, Cond.keeps, Cond.steady])) hini)
  obtain ⟨hx, hb, hml, ho, -⟩ := S
  intro T hT X
  rcases vx_callSX X hx (hh := hh) (bytes := bytes) (maxL := maxL) (ret := ret) ho hl hstt hini hcode hy hK hg (hsize.trans hml.symm) (argsL := As) (rest := rest) (fun sig h => hn.trans (hlen sig h)) hstack hW (by rw [hb]; exact hdg)
    (fun vm₁ hW₁ => ⟨hf.1, hf.2, hp.2 (T.setVm vm₁) hT hW₁⟩) with ⟨v, vm₁, ⟨U', l2, c2, s2⟩, hW₁, X', ⟨g', mk, t, L, e1, e2, hq, h1, hL, h2, h3⟩, st⟩ | ⟨q, vm₁, ⟨U', l2, c2, s2⟩, hW₁, X', ⟨g', mk, t, L, E, ce, e1, e2, hq, hce, hcv, hcl, h1, hL, h2, h3⟩, st⟩
  · dsimp only [Pt.U, Pt.locs, Pt.cells, Pt.slots] at X' e1 e2 h1 h2 h3 st
    subst h1; subst h2; subst h3
    exact Or.inl ⟨v, (T.setVm vm₁).calling g' mk As.toArray, t, U', L, hT, X', hL, e1, e2, hq, st⟩
  · dsimp only [Pt.U, Pt.locs, Pt.cells, Pt.slots] at X' e1 e2 h1 h2 h3 st hcl
    subst h1; subst h2; subst h3
    exact Or.inr ⟨q, (T.setVm vm₁).calling g' mk As.toArray, t, U', L, E, ce, hT, X', hL, e1, e2, hq, hce, hcv, vx_cls hW₁ hcl, st⟩
end
end VXH
theorem vx_ofWH {l : Launch} {y : MethodName} {ws ws' : List Cond} {rm : Room} {Pc : Array Value → State → Prop} {Qc : Array Value → State → Outcome → State → Prop} {XC : String → State → State → Prop} {mc ms : Nat} {free : Addr → Prop} {cc : ByteArray} {maxL : Nat} {ret : Option FieldType} {hh : List (Nat × Nat × Nat × Nat)}
    (hy : plainName y.cls = true) (hw : ws = Cond.codeWith y cc maxL ret hh :: ws')
    (body : ∀ p e s m args below meth c s₁, BodyLoose p l y (headSpec ws rm) cc maxL ret e s m args below meth c s₁ → c.maxLocals = maxL → Pc args s →
      W p l e (headSpec ws rm).room s m args below meth c s.heap [] 0 0 (vx_MQ below Qc XC args s mc ms free) (entryFrame m args maxL)) : vx_Met l y ws rm Pc Qc XC mc ms free := by
  refine MetFree.of_bodyS (code := cc) (maxLocals := maxL) (ret := ret) hy ?_ ?_
  · intro args s m h hn
    obtain ⟨m9, meth, c, hn9, h1, h2, h3, h4, -, h5, h6, -⟩ := Cond.codeWith_spec (atoms_spec (ws := ws) h _ (by rw [hw]; exact List.mem_cons_self))
    cases hn.symm.trans hn9
    exact ⟨meth, c, h1, h2, h3, h4, h5, h6⟩
  · intro p e s m args below meth c s₁ B hml hP _
    have hh0 : s₁.heap = s.heap := by rw [B.state]; rfl
    obtain ⟨t, a1, o, b1, b2, b3⟩ := body p e s m args below meth c s₁ B hml hP s₁ hh0 (Stand.of_body B)
    exact ⟨t, o, a1, b1, b2, b3⟩
/-! ===== END ===== -/
end
section
def RX0 : String := "SaltRow$Family"
def TX0 : u_T := fun k => match k with
  | 0 => ("SaltRow$Family", "rights", "[I", true)
  | 1 => ("SaltRow$Family", "salt", "I", false)
  | 2 => ("SaltRow$Family", "dirt", "I", false)
  | 3 => ("SaltRow$Family", "coins", "I", false)
  | 4 => ("SaltRow$Family", "saltGot", "I", false)
  | _ => ("SaltRow$Family", "saltSold", "I", false)
def tyX0 : Nat → FieldType := fun k => match k with
  | 0 => .array .int
  | 1 => .int
  | 2 => .int
  | 3 => .int
  | 4 => .int
  | _ => .int
abbrev wsX00 : List Cond := u_ws RX0 TX0 6
theorem nmX0 : ∀ a, a < 6 → ∀ b, b < 6 → a ≠ b → (TX0 a).2.1 ≠ (TX0 b).2.1 := by decide +kernel
theorem tyX0_ok : ∀ k, k < 6 → parseFieldDescriptor (TX0 k).2.2.1 = some (tyX0 k) := by decide +kernel
abbrev cX0_init : ByteArray := prog_2_method_1_code
def yX0_init : MethodName := ⟨RX0, "<init>", "()V"⟩
abbrev cX0_read : ByteArray := prog_2_method_2_code
def yX0_read : MethodName := ⟨RX0, "read", "(I)I"⟩
abbrev cX0_getSalt : ByteArray := prog_2_method_3_code
def yX0_getSalt : MethodName := ⟨RX0, "getSalt", "(II)V"⟩
def RX1 : String := "SaltRow$Pond"
def TX1 : u_T := fun k => match k with
  | 0 => ("SaltRow$Pond", "area", "I", false)
  | 1 => ("SaltRow$Pond", "brine", "I", false)
  | 2 => ("SaltRow$Pond", "salt", "I", false)
  | 3 => ("SaltRow$Pond", "gypsum", "I", false)
  | 4 => ("SaltRow$Pond", "bitter", "I", false)
  | 5 => ("SaltRow$Pond", "fresh", "I", false)
  | 6 => ("SaltRow$Pond", "crustSalt", "I", false)
  | 7 => ("SaltRow$Pond", "crustDirt", "I", false)
  | 8 => ("SaltRow$Pond", "saltFallen", "I", false)
  | 9 => ("SaltRow$Pond", "isOpen", "Z", false)
  | 10 => ("SaltRow$Pond", "isCovered", "Z", false)
  | _ => ("SaltRow$Pond", "wasHarvested", "Z", false)
def tyX1 : Nat → FieldType := fun k => match k with
  | 0 => .int
  | 1 => .int
  | 2 => .int
  | 3 => .int
  | 4 => .int
  | 5 => .int
  | 6 => .int
  | 7 => .int
  | 8 => .int
  | 9 => .boolean
  | 10 => .boolean
  | _ => .boolean
abbrev wsX10 : List Cond := u_ws RX1 TX1 12
theorem nmX1 : ∀ a, a < 12 → ∀ b, b < 12 → a ≠ b → (TX1 a).2.1 ≠ (TX1 b).2.1 := by decide +kernel
theorem tyX1_ok : ∀ k, k < 12 → parseFieldDescriptor (TX1 k).2.2.1 = some (tyX1 k) := by decide +kernel
abbrev cX1_init : ByteArray := prog_3_method_1_code
def yX1_init : MethodName := ⟨RX1, "<init>", "()V"⟩
abbrev cX1_level : ByteArray := prog_3_method_2_code
def yX1_level : MethodName := ⟨RX1, "level", "()I"⟩
abbrev cX1_strength : ByteArray := prog_3_method_3_code
def yX1_strength : MethodName := ⟨RX1, "strength", "()I"⟩
abbrev cX1_read : ByteArray := prog_3_method_4_code
def yX1_read : MethodName := ⟨RX1, "read", "(I)I"⟩
abbrev cX1_copyFrom : ByteArray := prog_3_method_5_code
def yX1_copyFrom : MethodName := ⟨RX1, "copyFrom", "(LSaltRow$Pond;)V"⟩
abbrev cX1_giveBrine : ByteArray := prog_3_method_7_code
def yX1_giveBrine : MethodName := ⟨RX1, "giveBrine", "(LSaltRow$Pond;I)V"⟩
abbrev cX1_takeIn : ByteArray := prog_3_method_8_code
def yX1_takeIn : MethodName := ⟨RX1, "takeIn", "(IIII)V"⟩
abbrev cX1_rainFalls : ByteArray := prog_3_method_9_code
def yX1_rainFalls : MethodName := ⟨RX1, "rainFalls", "(I)V"⟩
abbrev cX1_dryOut : ByteArray := prog_3_method_10_code
def yX1_dryOut : MethodName := ⟨RX1, "dryOut", "(I)V"⟩
abbrev cX1_mixFresh : ByteArray := prog_3_method_11_code
def yX1_mixFresh : MethodName := ⟨RX1, "mixFresh", "()V"⟩
abbrev cX1_dropMinerals : ByteArray := prog_3_method_12_code
def yX1_dropMinerals : MethodName := ⟨RX1, "dropMinerals", "()V"⟩
abbrev cX1_above : ByteArray := prog_3_method_13_code
def yX1_above : MethodName := ⟨RX1, "above", "(II)I"⟩
abbrev cX1_canBeHarvested : ByteArray := prog_3_method_14_code
def yX1_canBeHarvested : MethodName := ⟨RX1, "canBeHarvested", "()Z"⟩
abbrev cX1_saltOfHarvest : ByteArray := prog_3_method_15_code
def yX1_saltOfHarvest : MethodName := ⟨RX1, "saltOfHarvest", "(Z)I"⟩
abbrev cX1_dirtOfCrustWith : ByteArray := prog_3_method_16_code
def yX1_dirtOfCrustWith : MethodName := ⟨RX1, "dirtOfCrustWith", "(I)I"⟩
abbrev cX1_dirtOfFloor : ByteArray := prog_3_method_17_code
def yX1_dirtOfFloor : MethodName := ⟨RX1, "dirtOfFloor", "(Z)I"⟩
def RX2 : String := "SaltRow$Row"
def TX2 : u_T := fun k => match k with
  | 0 => ("SaltRow$Row", "ponds", "[LSaltRow$Pond;", true)
  | 1 => ("SaltRow$Row", "day", "I", false)
  | 2 => ("SaltRow$Row", "sun", "I", false)
  | 3 => ("SaltRow$Row", "wind", "I", false)
  | _ => ("SaltRow$Row", "seaSalt", "I", false)
def tyX2 : Nat → FieldType := fun k => match k with
  | 0 => .array (.object "SaltRow$Pond")
  | 1 => .int
  | 2 => .int
  | 3 => .int
  | _ => .int
abbrev wsX20 : List Cond := u_ws RX2 TX2 5
theorem nmX2 : ∀ a, a < 5 → ∀ b, b < 5 → a ≠ b → (TX2 a).2.1 ≠ (TX2 b).2.1 := by decide +kernel
theorem tyX2_ok : ∀ k, k < 5 → parseFieldDescriptor (TX2 k).2.2.1 = some (tyX2 k) := by decide +kernel
abbrev cX2_init : ByteArray := prog_4_method_1_code
def yX2_init : MethodName := ⟨RX2, "<init>", "()V"⟩
abbrev cX2_copyFrom : ByteArray := prog_4_method_2_code
def yX2_copyFrom : MethodName := ⟨RX2, "copyFrom", "(LSaltRow$Row;)V"⟩
abbrev cX2_letDayGoBy : ByteArray := prog_4_method_3_code
def yX2_letDayGoBy : MethodName := ⟨RX2, "letDayGoBy", "(III)V"⟩
abbrev cX2_letSeaIn : ByteArray := prog_4_method_4_code
def yX2_letSeaIn : MethodName := ⟨RX2, "letSeaIn", "()V"⟩
abbrev cX2_letBrineFlowOn : ByteArray := prog_4_method_5_code
def yX2_letBrineFlowOn : MethodName := ⟨RX2, "letBrineFlowOn", "()V"⟩
abbrev cX2_setGates : ByteArray := prog_4_method_6_code
def yX2_setGates : MethodName := ⟨RX2, "setGates", "(I)V"⟩
abbrev cX2_openGates : ByteArray := prog_4_method_7_code
def yX2_openGates : MethodName := ⟨RX2, "openGates", "()I"⟩
abbrev cX2_coveredPans : ByteArray := prog_4_method_8_code
def yX2_coveredPans : MethodName := ⟨RX2, "coveredPans", "()I"⟩
abbrev cX2_saltFallenInPans : ByteArray := prog_4_method_9_code
def yX2_saltFallenInPans : MethodName := ⟨RX2, "saltFallenInPans", "()I"⟩
abbrev cX2_saltInPans : ByteArray := prog_4_method_10_code
def yX2_saltInPans : MethodName := ⟨RX2, "saltInPans", "()I"⟩
abbrev cX2_sumOfPonds : ByteArray := prog_4_method_11_code
def yX2_sumOfPonds : MethodName := ⟨RX2, "sumOfPonds", "(I)I"⟩
def RX3 : String := "SaltRow"
def TX3 : u_T := fun k => match k with
  | 0 => ("SaltRow", "row", "LSaltRow$Row;", true)
  | 1 => ("SaltRow", "trial", "LSaltRow$Row;", true)
  | 2 => ("SaltRow", "families", "[LSaltRow$Family;", true)
  | 3 => ("SaltRow", "familyCount", "I", false)
  | 4 => ("SaltRow", "skimmed", "I", false)
  | 5 => ("SaltRow", "lostSalt", "I", false)
  | 6 => ("SaltRow", "crownSalt", "I", false)
  | 7 => ("SaltRow", "cloisterSalt", "I", false)
  | 8 => ("SaltRow", "cloisterDirt", "I", false)
  | _ => ("SaltRow", "worksCoins", "I", false)
def tyX3 : Nat → FieldType := fun k => match k with
  | 0 => .object "SaltRow$Row"
  | 1 => .object "SaltRow$Row"
  | 2 => .array (.object "SaltRow$Family")
  | 3 => .int
  | 4 => .int
  | 5 => .int
  | 6 => .int
  | 7 => .int
  | 8 => .int
  | _ => .int
abbrev wsX30 : List Cond := u_ws RX3 TX3 10
theorem nmX3 : ∀ a, a < 10 → ∀ b, b < 10 → a ≠ b → (TX3 a).2.1 ≠ (TX3 b).2.1 := by decide +kernel
theorem tyX3_ok : ∀ k, k < 10 → parseFieldDescriptor (TX3 k).2.2.1 = some (tyX3 k) := by decide +kernel
abbrev cX3_init : ByteArray := prog_1_method_1_code
def yX3_init : MethodName := ⟨RX3, "<init>", "()V"⟩
abbrev cX3_area : ByteArray := prog_1_method_2_code
def yX3_area : MethodName := ⟨RX3, "area", "(II)I"⟩
abbrev cX3_gate : ByteArray := prog_1_method_3_code
def yX3_gate : MethodName := ⟨RX3, "gate", "(IZ)Z"⟩
abbrev cX3_pass : ByteArray := prog_1_method_5_code
def yX3_pass : MethodName := ⟨RX3, "pass", "(IIII)I"⟩
abbrev cX3_skim : ByteArray := prog_1_method_6_code
def yX3_skim : MethodName := ⟨RX3, "skim", "(I)I"⟩
abbrev cX3_family : ByteArray := prog_1_method_9_code
def yX3_family : MethodName := ⟨RX3, "family", "()I"⟩
abbrev cX3_right : ByteArray := prog_1_method_10_code
def yX3_right : MethodName := ⟨RX3, "right", "(III)I"⟩
abbrev cX3_harvest : ByteArray := prog_1_method_11_code
def yX3_harvest : MethodName := ⟨RX3, "harvest", "(IZ)I"⟩
abbrev cX3_wash : ByteArray := prog_1_method_13_code
def yX3_wash : MethodName := ⟨RX3, "wash", "(I)I"⟩
abbrev cX3_ofPond : ByteArray := prog_1_method_15_code
def yX3_ofPond : MethodName := ⟨RX3, "ofPond", "(II)I"⟩
abbrev cX3_ofFamily : ByteArray := prog_1_method_16_code
def yX3_ofFamily : MethodName := ⟨RX3, "ofFamily", "(II)I"⟩
abbrev cX3_rightOf : ByteArray := prog_1_method_17_code
def yX3_rightOf : MethodName := ⟨RX3, "rightOf", "(II)I"⟩
abbrev cX3_many : ByteArray := prog_1_method_19_code
def yX3_many : MethodName := ⟨RX3, "many", "(I)I"⟩
abbrev cX3_crustIn : ByteArray := prog_1_method_21_code
def yX3_crustIn : MethodName := ⟨RX3, "crustIn", "(III)I"⟩
abbrev cX3_bestGates : ByteArray := prog_1_method_22_code
def yX3_bestGates : MethodName := ⟨RX3, "bestGates", "(III)I"⟩
abbrev cX3_tideOn : ByteArray := prog_1_method_24_code
def yX3_tideOn : MethodName := ⟨RX3, "tideOn", "(IZ)I"⟩
abbrev cX3_digest : ByteArray := prog_1_method_25_code
def yX3_digest : MethodName := ⟨RX3, "digest", "()J"⟩
abbrev cX3_digestOfFamily : ByteArray := prog_1_method_26_code
def yX3_digestOfFamily : MethodName := ⟨RX3, "digestOfFamily", "(IJ)J"⟩
abbrev cX3_saltInPansWith : ByteArray := prog_1_method_27_code
def yX3_saltInPansWith : MethodName := ⟨RX3, "saltInPansWith", "(IIII)I"⟩
abbrev cX3_shareOut : ByteArray := prog_1_method_28_code
def yX3_shareOut : MethodName := ⟨RX3, "shareOut", "(III)V"⟩
abbrev cX3_rightsIn : ByteArray := prog_1_method_29_code
def yX3_rightsIn : MethodName := ⟨RX3, "rightsIn", "(I)I"⟩
abbrev cX3_sumOfFamilies : ByteArray := prog_1_method_30_code
def yX3_sumOfFamilies : MethodName := ⟨RX3, "sumOfFamilies", "(I)I"⟩
abbrev cX3_needPond : ByteArray := prog_1_method_31_code
def yX3_needPond : MethodName := ⟨RX3, "needPond", "(I)V"⟩
abbrev cX3_needPan : ByteArray := prog_1_method_32_code
def yX3_needPan : MethodName := ⟨RX3, "needPan", "(I)V"⟩
abbrev cX3_needFamily : ByteArray := prog_1_method_33_code
def yX3_needFamily : MethodName := ⟨RX3, "needFamily", "(I)V"⟩
abbrev cX3_needWeather : ByteArray := prog_1_method_34_code
def yX3_needWeather : MethodName := ⟨RX3, "needWeather", "(II)V"⟩
abbrev cX3_tideAt : ByteArray := prog_1_method_35_code
def yX3_tideAt : MethodName := ⟨RX3, "tideAt", "(I)I"⟩
abbrev cX3_crownsPart : ByteArray := prog_1_method_36_code
def yX3_crownsPart : MethodName := ⟨RX3, "crownsPart", "(I)I"⟩
abbrev cX3_purity : ByteArray := prog_1_method_37_code
def yX3_purity : MethodName := ⟨RX3, "purity", "(II)I"⟩
abbrev cX3_portion : ByteArray := prog_1_method_38_code
def yX3_portion : MethodName := ⟨RX3, "portion", "(JJJ)I"⟩
abbrev cX3_roundedUp : ByteArray := prog_1_method_39_code
def yX3_roundedUp : MethodName := ⟨RX3, "roundedUp", "(II)I"⟩
def wsX0_init : List Cond := .code yX0_init cX0_init 1 none :: ([.methodLink RX0 3 objectInit, .instanceMethod objectInit, .code objectInit ⟨#[0xb1]⟩ 1 none, .arrayClass .int, .fieldLink RX0 9 "SaltRow$Family" "rights" "[I"] ++ wsX00)
def wsX3_portion : List Cond := .code yX3_portion cX3_portion 6 (some .int) :: ([])
def wsX3_purity : List Cond := .code yX3_purity cX3_purity 2 (some .int) :: ([.constantLong RX3 327 (100), .methodLink RX3 214 yX3_portion, .static yX3_portion, .initialized RX3, .code yX3_portion cX3_portion 6 (some .int)])
def wsX0_read : List Cond := .code yX0_read cX0_read 2 (some .int) :: ([.fieldLink RX0 15 "SaltRow$Family" "salt" "I", .fieldLink RX0 19 "SaltRow$Family" "dirt" "I", .fieldLink RX0 26 "SaltRow$Family" "coins" "I", .fieldLink RX0 29 "SaltRow$Family" "saltGot" "I", .fieldLink RX0 32 "SaltRow$Family" "saltSold" "I", .static yX3_purity, .initialized RX3, .code yX3_purity cX3_purity 2 (some .int), .constantLong RX3 327 (100), .methodLink RX3 214 yX3_portion, .static yX3_portion, .code yX3_portion cX3_portion 6 (some .int)] ++ wsX00)
def wsX0_getSalt : List Cond := .code yX0_getSalt cX0_getSalt 3 none :: ([.fieldLink RX0 15 "SaltRow$Family" "salt" "I", .fieldLink RX0 19 "SaltRow$Family" "dirt" "I", .fieldLink RX0 29 "SaltRow$Family" "saltGot" "I"] ++ wsX00)
def wsX1_init : List Cond := .code yX1_init cX1_init 1 none :: ([.methodLink RX1 3 objectInit, .instanceMethod objectInit, .code objectInit ⟨#[0xb1]⟩ 1 none, .fieldLink RX1 9 "SaltRow$Pond" "area" "I"] ++ wsX10)
def wsX1_level : List Cond := .code yX1_level cX1_level 1 (some .int) :: ([.fieldLink RX1 15 "SaltRow$Pond" "brine" "I", .fieldLink RX1 9 "SaltRow$Pond" "area" "I", .static yX3_portion, .initialized RX3, .code yX3_portion cX3_portion 6 (some .int)] ++ wsX10)
def wsX1_strength : List Cond := .code yX1_strength cX1_strength 1 (some .int) :: ([.fieldLink RX1 22 "SaltRow$Pond" "salt" "I", .fieldLink RX1 25 "SaltRow$Pond" "bitter" "I", .constantLong RX1 28 (5), .fieldLink RX1 15 "SaltRow$Pond" "brine" "I", .methodLink RX1 30 Lib.Math.min.name, .static Lib.Math.min.name, .initialized "java/lang/Math", .code Lib.Math.min.name Lib.Math.min.code 2 (some .int), .static yX3_portion, .initialized RX3, .code yX3_portion cX3_portion 6 (some .int)] ++ wsX10)
def wsX1_read_r1 : List Cond := [Cond.fieldLink RX1 9 "SaltRow$Pond" "area" "I", Cond.fieldLink RX1 15 "SaltRow$Pond" "brine" "I", Cond.fieldLink RX1 22 "SaltRow$Pond" "salt" "I", Cond.fieldLink RX1 36 "SaltRow$Pond" "gypsum" "I", Cond.fieldLink RX1 25 "SaltRow$Pond" "bitter" "I", Cond.fieldLink RX1 39 "SaltRow$Pond" "fresh" "I", Cond.fieldLink RX1 42 "SaltRow$Pond" "crustSalt" "I", Cond.fieldLink RX1 45 "SaltRow$Pond" "crustDirt" "I", Cond.fieldLink RX1 55 "SaltRow$Pond" "wasHarvested" "Z", Cond.methodLink RX1 48 yX1_level, Cond.instanceMethod yX1_level, Cond.selects RX1 yX1_level yX1_level, Cond.initialized RX1, Cond.code yX1_level cX1_level 1 (some .int), Cond.static yX3_portion, Cond.initialized RX3, Cond.code yX3_portion cX3_portion 6 (some .int), Cond.methodLink RX1 52 yX1_strength, Cond.instanceMethod yX1_strength, Cond.selects RX1 yX1_strength yX1_strength, Cond.code yX1_strength cX1_strength 1 (some .int), Cond.constantLong RX1 28 (5), Cond.methodLink RX1 30 Lib.Math.min.name, Cond.static Lib.Math.min.name]
def wsX1_read_r2 : List Cond := [Cond.initialized "java/lang/Math", Cond.code Lib.Math.min.name Lib.Math.min.code 2 (some .int)]
def wsX1_read : List Cond := .code yX1_read cX1_read 2 (some .int) :: ((wsX1_read_r1 ++ wsX1_read_r2) ++ wsX10)
def wsX1_copyFrom : List Cond := .code yX1_copyFrom cX1_copyFrom 2 none :: ([.fieldLink RX1 9 "SaltRow$Pond" "area" "I", .fieldLink RX1 15 "SaltRow$Pond" "brine" "I", .fieldLink RX1 22 "SaltRow$Pond" "salt" "I", .fieldLink RX1 36 "SaltRow$Pond" "gypsum" "I", .fieldLink RX1 25 "SaltRow$Pond" "bitter" "I", .fieldLink RX1 39 "SaltRow$Pond" "fresh" "I", .fieldLink RX1 42 "SaltRow$Pond" "crustSalt" "I", .fieldLink RX1 45 "SaltRow$Pond" "crustDirt" "I", .fieldLink RX1 59 "SaltRow$Pond" "saltFallen" "I", .fieldLink RX1 62 "SaltRow$Pond" "isOpen" "Z", .fieldLink RX1 65 "SaltRow$Pond" "isCovered" "Z", .fieldLink RX1 55 "SaltRow$Pond" "wasHarvested" "Z"] ++ wsX10)
def wsX1_takeIn : List Cond := .code yX1_takeIn cX1_takeIn 5 none :: ([.fieldLink RX1 15 "SaltRow$Pond" "brine" "I", .fieldLink RX1 22 "SaltRow$Pond" "salt" "I", .fieldLink RX1 36 "SaltRow$Pond" "gypsum" "I", .fieldLink RX1 25 "SaltRow$Pond" "bitter" "I"] ++ wsX10)
def wsX1_giveBrine : List Cond := .code yX1_giveBrine cX1_giveBrine 6 none :: ([.fieldLink RX1 22 "SaltRow$Pond" "salt" "I", .fieldLink RX1 15 "SaltRow$Pond" "brine" "I", .fieldLink RX1 36 "SaltRow$Pond" "gypsum" "I", .fieldLink RX1 25 "SaltRow$Pond" "bitter" "I", .static yX3_portion, .initialized RX3, .code yX3_portion cX3_portion 6 (some .int), .methodLink RX1 68 yX1_takeIn, .instanceMethod yX1_takeIn, .selects RX1 yX1_takeIn yX1_takeIn, .initialized RX1, .code yX1_takeIn cX1_takeIn 5 none] ++ wsX10)
def wsX1_rainFalls : List Cond := .code yX1_rainFalls cX1_rainFalls 2 none :: ([.fieldLink RX1 65 "SaltRow$Pond" "isCovered" "Z", .fieldLink RX1 39 "SaltRow$Pond" "fresh" "I", .fieldLink RX1 9 "SaltRow$Pond" "area" "I"] ++ wsX10)
def wsX3_roundedUp : List Cond := .code yX3_roundedUp cX3_roundedUp 2 (some .int) :: ([])
def wsX1_dryOut : List Cond := .code yX1_dryOut cX1_dryOut 4 none :: ([.fieldLink RX1 9 "SaltRow$Pond" "area" "I", .fieldLink RX1 39 "SaltRow$Pond" "fresh" "I", .methodLink RX1 30 Lib.Math.min.name, .static Lib.Math.min.name, .initialized "java/lang/Math", .code Lib.Math.min.name Lib.Math.min.code 2 (some .int), .fieldLink RX1 15 "SaltRow$Pond" "brine" "I", .methodLink RX1 52 yX1_strength, .instanceMethod yX1_strength, .selects RX1 yX1_strength yX1_strength, .initialized RX1, .code yX1_strength cX1_strength 1 (some .int), .fieldLink RX1 22 "SaltRow$Pond" "salt" "I", .fieldLink RX1 25 "SaltRow$Pond" "bitter" "I", .constantLong RX1 28 (5), .static yX3_portion, .initialized RX3, .code yX3_portion cX3_portion 6 (some .int), .static yX3_roundedUp, .code yX3_roundedUp cX3_roundedUp 2 (some .int)] ++ wsX10)
def wsX1_mixFresh : List Cond := .code yX1_mixFresh cX1_mixFresh 3 none :: ([.fieldLink RX1 39 "SaltRow$Pond" "fresh" "I", .fieldLink RX1 42 "SaltRow$Pond" "crustSalt" "I", .methodLink RX1 30 Lib.Math.min.name, .static Lib.Math.min.name, .initialized "java/lang/Math", .code Lib.Math.min.name Lib.Math.min.code 2 (some .int), .fieldLink RX1 15 "SaltRow$Pond" "brine" "I", .fieldLink RX1 22 "SaltRow$Pond" "salt" "I", .static yX3_roundedUp, .initialized RX3, .code yX3_roundedUp cX3_roundedUp 2 (some .int)] ++ wsX10)
def wsX1_above : List Cond := .code yX1_above cX1_above 3 (some .int) :: ([.fieldLink RX1 15 "SaltRow$Pond" "brine" "I", .methodLink RX1 78 Lib.MathLoose.max_long.x, .static Lib.MathLoose.max_long.x, .initialized "java/lang/Math", .code Lib.MathLoose.max_long.x Lib.MathLoose.max_long.code 4 (some .long)] ++ wsX10)
def wsX1_dropMinerals : List Cond := .code yX1_dropMinerals cX1_dropMinerals 3 none :: ([.fieldLink RX1 36 "SaltRow$Pond" "gypsum" "I", .fieldLink RX1 25 "SaltRow$Pond" "bitter" "I", .fieldLink RX1 22 "SaltRow$Pond" "salt" "I", .fieldLink RX1 59 "SaltRow$Pond" "saltFallen" "I", .fieldLink RX1 42 "SaltRow$Pond" "crustSalt" "I", .fieldLink RX1 45 "SaltRow$Pond" "crustDirt" "I", .methodLink RX1 75 yX1_above, .instanceMethod yX1_above, .selects RX1 yX1_above yX1_above, .initialized RX1, .code yX1_above cX1_above 3 (some .int), .fieldLink RX1 15 "SaltRow$Pond" "brine" "I", .methodLink RX1 78 Lib.MathLoose.max_long.x, .static Lib.MathLoose.max_long.x, .initialized "java/lang/Math", .code Lib.MathLoose.max_long.x Lib.MathLoose.max_long.code 4 (some .long)] ++ wsX10)
def wsX1_canBeHarvested : List Cond := .code yX1_canBeHarvested cX1_canBeHarvested 1 (some .boolean) :: ([.fieldLink RX1 42 "SaltRow$Pond" "crustSalt" "I", .fieldLink RX1 55 "SaltRow$Pond" "wasHarvested" "Z"] ++ wsX10)
def wsX1_saltOfHarvest : List Cond := .code yX1_saltOfHarvest cX1_saltOfHarvest 2 (some .int) :: ([.fieldLink RX1 42 "SaltRow$Pond" "crustSalt" "I", .fieldLink RX1 9 "SaltRow$Pond" "area" "I", .methodLink RX1 30 Lib.Math.min.name, .static Lib.Math.min.name, .initialized "java/lang/Math", .code Lib.Math.min.name Lib.Math.min.code 2 (some .int)] ++ wsX10)
def wsX1_dirtOfCrustWith : List Cond := .code yX1_dirtOfCrustWith cX1_dirtOfCrustWith 2 (some .int) :: ([.fieldLink RX1 45 "SaltRow$Pond" "crustDirt" "I", .fieldLink RX1 42 "SaltRow$Pond" "crustSalt" "I", .static yX3_portion, .initialized RX3, .code yX3_portion cX3_portion 6 (some .int)] ++ wsX10)
def wsX1_dirtOfFloor : List Cond := .code yX1_dirtOfFloor cX1_dirtOfFloor 2 (some .int) :: ([.fieldLink RX1 9 "SaltRow$Pond" "area" "I"] ++ wsX10)
def wsX2_init : List Cond := .code yX2_init cX2_init 2 none :: ([.methodLink RX2 3 objectInit, .instanceMethod objectInit, .code objectInit ⟨#[0xb1]⟩ 1 none, .classLink RX2 9 RX1, .fieldLink RX2 11 "SaltRow$Row" "ponds" "[LSaltRow$Pond;", .instantiable RX1 12, .initialized RX1, .instanceMethod yX1_init, .code yX1_init cX1_init 1 none, .methodLink RX1 3 objectInit, .fieldLink RX1 9 "SaltRow$Pond" "area" "I"] ++ wsX20 ++ wsX10)
def wsX2_copyFrom : List Cond := .code yX2_copyFrom cX2_copyFrom 3 none :: ([.fieldLink RX2 18 "SaltRow$Row" "day" "I", .fieldLink RX2 22 "SaltRow$Row" "sun" "I", .fieldLink RX2 25 "SaltRow$Row" "wind" "I", .fieldLink RX2 28 "SaltRow$Row" "seaSalt" "I", .fieldLink RX2 11 "SaltRow$Row" "ponds" "[LSaltRow$Pond;", .methodLink RX2 31 yX1_copyFrom, .instanceMethod yX1_copyFrom, .selects RX1 yX1_copyFrom yX1_copyFrom, .initialized RX1, .code yX1_copyFrom cX1_copyFrom 2 none, .fieldLink RX1 9 "SaltRow$Pond" "area" "I", .fieldLink RX1 15 "SaltRow$Pond" "brine" "I", .fieldLink RX1 22 "SaltRow$Pond" "salt" "I", .fieldLink RX1 36 "SaltRow$Pond" "gypsum" "I", .fieldLink RX1 25 "SaltRow$Pond" "bitter" "I", .fieldLink RX1 39 "SaltRow$Pond" "fresh" "I", .fieldLink RX1 42 "SaltRow$Pond" "crustSalt" "I", .fieldLink RX1 45 "SaltRow$Pond" "crustDirt" "I", .fieldLink RX1 59 "SaltRow$Pond" "saltFallen" "I", .fieldLink RX1 62 "SaltRow$Pond" "isOpen" "Z", .fieldLink RX1 65 "SaltRow$Pond" "isCovered" "Z", .fieldLink RX1 55 "SaltRow$Pond" "wasHarvested" "Z"] ++ wsX20 ++ wsX10)
def wsX3_tideAt : List Cond := .code yX3_tideAt cX3_tideAt 1 (some .int) :: ([.methodLink RX3 324 Lib.Math.abs.name, .static Lib.Math.abs.name, .initialized "java/lang/Math", .code Lib.Math.abs.name Lib.Math.abs.code 1 (some .int)])
def wsX2_letSeaIn_r1 : List Cond := [Cond.fieldLink RX2 11 "SaltRow$Row" "ponds" "[LSaltRow$Pond;", Cond.fieldLink RX2 18 "SaltRow$Row" "day" "I", Cond.fieldLink RX2 66 "SaltRow$Pond" "isOpen" "Z", Cond.fieldLink RX2 69 "SaltRow$Pond" "area" "I", Cond.fieldLink RX2 28 "SaltRow$Row" "seaSalt" "I", Cond.static yX3_tideAt, Cond.initialized RX3, Cond.code yX3_tideAt cX3_tideAt 1 (some .int), Cond.methodLink RX3 324 Lib.Math.abs.name, Cond.static Lib.Math.abs.name, Cond.initialized "java/lang/Math", Cond.code Lib.Math.abs.name Lib.Math.abs.code 1 (some .int), Cond.methodLink RX2 62 yX1_level, Cond.instanceMethod yX1_level, Cond.selects RX1 yX1_level yX1_level, Cond.initialized RX1, Cond.code yX1_level cX1_level 1 (some .int), Cond.fieldLink RX1 15 "SaltRow$Pond" "brine" "I", Cond.fieldLink RX1 9 "SaltRow$Pond" "area" "I", Cond.static yX3_portion, Cond.code yX3_portion cX3_portion 6 (some .int), Cond.methodLink RX2 72 yX1_takeIn, Cond.instanceMethod yX1_takeIn, Cond.selects RX1 yX1_takeIn yX1_takeIn]
def wsX2_letSeaIn_r2 : List Cond := [Cond.code yX1_takeIn cX1_takeIn 5 none, Cond.fieldLink RX1 22 "SaltRow$Pond" "salt" "I", Cond.fieldLink RX1 36 "SaltRow$Pond" "gypsum" "I", Cond.fieldLink RX1 25 "SaltRow$Pond" "bitter" "I"]
def wsX2_letSeaIn : List Cond := .code yX2_letSeaIn cX2_letSeaIn 4 none :: ((wsX2_letSeaIn_r1 ++ wsX2_letSeaIn_r2) ++ wsX20 ++ wsX10)
def wsX2_letBrineFlowOn_r1 : List Cond := [Cond.fieldLink RX2 11 "SaltRow$Row" "ponds" "[LSaltRow$Pond;", Cond.fieldLink RX2 66 "SaltRow$Pond" "isOpen" "Z", Cond.fieldLink RX2 69 "SaltRow$Pond" "area" "I", Cond.methodLink RX2 76 Lib.Math.min.name, Cond.static Lib.Math.min.name, Cond.initialized "java/lang/Math", Cond.code Lib.Math.min.name Lib.Math.min.code 2 (some .int), Cond.constantLong RX2 82 (2), Cond.methodLink RX2 62 yX1_level, Cond.instanceMethod yX1_level, Cond.selects RX1 yX1_level yX1_level, Cond.initialized RX1, Cond.code yX1_level cX1_level 1 (some .int), Cond.fieldLink RX1 15 "SaltRow$Pond" "brine" "I", Cond.fieldLink RX1 9 "SaltRow$Pond" "area" "I", Cond.static yX3_portion, Cond.initialized RX3, Cond.code yX3_portion cX3_portion 6 (some .int), Cond.methodLink RX2 88 yX1_giveBrine, Cond.instanceMethod yX1_giveBrine, Cond.selects RX1 yX1_giveBrine yX1_giveBrine, Cond.code yX1_giveBrine cX1_giveBrine 6 none, Cond.fieldLink RX1 22 "SaltRow$Pond" "salt" "I", Cond.fieldLink RX1 36 "SaltRow$Pond" "gypsum" "I"]
def wsX2_letBrineFlowOn_r2 : List Cond := [Cond.fieldLink RX1 25 "SaltRow$Pond" "bitter" "I", Cond.methodLink RX1 68 yX1_takeIn, Cond.instanceMethod yX1_takeIn, Cond.selects RX1 yX1_takeIn yX1_takeIn, Cond.code yX1_takeIn cX1_takeIn 5 none]
def wsX2_letBrineFlowOn : List Cond := .code yX2_letBrineFlowOn cX2_letBrineFlowOn 5 none :: ((wsX2_letBrineFlowOn_r1 ++ wsX2_letBrineFlowOn_r2) ++ wsX20 ++ wsX10)
def wsX2_letDayGoBy_r1 : List Cond := [Cond.fieldLink RX2 18 "SaltRow$Row" "day" "I", Cond.fieldLink RX2 22 "SaltRow$Row" "sun" "I", Cond.fieldLink RX2 25 "SaltRow$Row" "wind" "I", Cond.fieldLink RX2 11 "SaltRow$Row" "ponds" "[LSaltRow$Pond;", Cond.fieldLink RX2 41 "SaltRow$Pond" "wasHarvested" "Z", Cond.methodLink RX2 35 yX2_letSeaIn, Cond.instanceMethod yX2_letSeaIn, Cond.selects RX2 yX2_letSeaIn yX2_letSeaIn, Cond.initialized RX2, Cond.code yX2_letSeaIn cX2_letSeaIn 4 none, Cond.fieldLink RX2 66 "SaltRow$Pond" "isOpen" "Z", Cond.fieldLink RX2 69 "SaltRow$Pond" "area" "I", Cond.fieldLink RX2 28 "SaltRow$Row" "seaSalt" "I", Cond.static yX3_tideAt, Cond.initialized RX3, Cond.code yX3_tideAt cX3_tideAt 1 (some .int), Cond.methodLink RX3 324 Lib.Math.abs.name, Cond.static Lib.Math.abs.name, Cond.initialized "java/lang/Math", Cond.code Lib.Math.abs.name Lib.Math.abs.code 1 (some .int), Cond.methodLink RX2 62 yX1_level, Cond.instanceMethod yX1_level, Cond.selects RX1 yX1_level yX1_level, Cond.initialized RX1]
def wsX2_letDayGoBy_r2 : List Cond := [Cond.code yX1_level cX1_level 1 (some .int), Cond.fieldLink RX1 15 "SaltRow$Pond" "brine" "I", Cond.fieldLink RX1 9 "SaltRow$Pond" "area" "I", Cond.static yX3_portion, Cond.code yX3_portion cX3_portion 6 (some .int), Cond.methodLink RX2 72 yX1_takeIn, Cond.instanceMethod yX1_takeIn, Cond.selects RX1 yX1_takeIn yX1_takeIn, Cond.code yX1_takeIn cX1_takeIn 5 none, Cond.fieldLink RX1 22 "SaltRow$Pond" "salt" "I", Cond.fieldLink RX1 36 "SaltRow$Pond" "gypsum" "I", Cond.fieldLink RX1 25 "SaltRow$Pond" "bitter" "I", Cond.methodLink RX2 38 yX2_letBrineFlowOn, Cond.instanceMethod yX2_letBrineFlowOn, Cond.selects RX2 yX2_letBrineFlowOn yX2_letBrineFlowOn, Cond.code yX2_letBrineFlowOn cX2_letBrineFlowOn 5 none, Cond.methodLink RX2 76 Lib.Math.min.name, Cond.static Lib.Math.min.name, Cond.code Lib.Math.min.name Lib.Math.min.code 2 (some .int), Cond.constantLong RX2 82 (2), Cond.methodLink RX2 88 yX1_giveBrine, Cond.instanceMethod yX1_giveBrine, Cond.selects RX1 yX1_giveBrine yX1_giveBrine, Cond.code yX1_giveBrine cX1_giveBrine 6 none]
def wsX2_letDayGoBy_r3 : List Cond := [Cond.methodLink RX1 68 yX1_takeIn, Cond.methodLink RX2 45 yX1_rainFalls, Cond.instanceMethod yX1_rainFalls, Cond.selects RX1 yX1_rainFalls yX1_rainFalls, Cond.code yX1_rainFalls cX1_rainFalls 2 none, Cond.fieldLink RX1 65 "SaltRow$Pond" "isCovered" "Z", Cond.fieldLink RX1 39 "SaltRow$Pond" "fresh" "I", Cond.methodLink RX2 49 yX1_dryOut, Cond.instanceMethod yX1_dryOut, Cond.selects RX1 yX1_dryOut yX1_dryOut, Cond.code yX1_dryOut cX1_dryOut 4 none, Cond.methodLink RX1 30 Lib.Math.min.name, Cond.methodLink RX1 52 yX1_strength, Cond.instanceMethod yX1_strength, Cond.selects RX1 yX1_strength yX1_strength, Cond.code yX1_strength cX1_strength 1 (some .int), Cond.constantLong RX1 28 (5), Cond.static yX3_roundedUp, Cond.code yX3_roundedUp cX3_roundedUp 2 (some .int), Cond.methodLink RX2 52 yX1_mixFresh, Cond.instanceMethod yX1_mixFresh, Cond.selects RX1 yX1_mixFresh yX1_mixFresh, Cond.code yX1_mixFresh cX1_mixFresh 3 none, Cond.fieldLink RX1 42 "SaltRow$Pond" "crustSalt" "I"]
def wsX2_letDayGoBy_r4 : List Cond := [Cond.methodLink RX2 55 yX1_dropMinerals, Cond.instanceMethod yX1_dropMinerals, Cond.selects RX1 yX1_dropMinerals yX1_dropMinerals, Cond.code yX1_dropMinerals cX1_dropMinerals 3 none, Cond.fieldLink RX1 59 "SaltRow$Pond" "saltFallen" "I", Cond.fieldLink RX1 45 "SaltRow$Pond" "crustDirt" "I", Cond.methodLink RX1 75 yX1_above, Cond.instanceMethod yX1_above, Cond.selects RX1 yX1_above yX1_above, Cond.code yX1_above cX1_above 3 (some .int), Cond.methodLink RX1 78 Lib.MathLoose.max_long.x, Cond.static Lib.MathLoose.max_long.x, Cond.code Lib.MathLoose.max_long.x Lib.MathLoose.max_long.code 4 (some .long)]
def wsX2_letDayGoBy : List Cond := .code yX2_letDayGoBy cX2_letDayGoBy 6 none :: ((wsX2_letDayGoBy_r1 ++ (wsX2_letDayGoBy_r2 ++ (wsX2_letDayGoBy_r3 ++ wsX2_letDayGoBy_r4))) ++ wsX20 ++ wsX10)
def wsX2_setGates : List Cond := .code yX2_setGates cX2_setGates 3 none :: ([.fieldLink RX2 11 "SaltRow$Row" "ponds" "[LSaltRow$Pond;", .fieldLink RX2 66 "SaltRow$Pond" "isOpen" "Z"] ++ wsX20 ++ wsX10)
def wsX2_openGates : List Cond := .code yX2_openGates cX2_openGates 3 (some .int) :: ([.fieldLink RX2 11 "SaltRow$Row" "ponds" "[LSaltRow$Pond;", .fieldLink RX2 66 "SaltRow$Pond" "isOpen" "Z"] ++ wsX20 ++ wsX10)
def wsX2_coveredPans : List Cond := .code yX2_coveredPans cX2_coveredPans 3 (some .int) :: ([.fieldLink RX2 11 "SaltRow$Row" "ponds" "[LSaltRow$Pond;", .fieldLink RX2 92 "SaltRow$Pond" "isCovered" "Z"] ++ wsX20 ++ wsX10)
def wsX2_saltFallenInPans : List Cond := .code yX2_saltFallenInPans cX2_saltFallenInPans 3 (some .int) :: ([.fieldLink RX2 11 "SaltRow$Row" "ponds" "[LSaltRow$Pond;", .fieldLink RX2 95 "SaltRow$Pond" "saltFallen" "I"] ++ wsX20 ++ wsX10)
def wsX2_saltInPans : List Cond := .code yX2_saltInPans cX2_saltInPans 3 (some .int) :: ([.fieldLink RX2 11 "SaltRow$Row" "ponds" "[LSaltRow$Pond;", .fieldLink RX2 98 "SaltRow$Pond" "salt" "I", .fieldLink RX2 101 "SaltRow$Pond" "crustSalt" "I"] ++ wsX20 ++ wsX10)
def wsX2_sumOfPonds_r1 : List Cond := [Cond.fieldLink RX2 11 "SaltRow$Row" "ponds" "[LSaltRow$Pond;", Cond.methodLink RX2 104 yX1_read, Cond.instanceMethod yX1_read, Cond.selects RX1 yX1_read yX1_read, Cond.initialized RX1, Cond.code yX1_read cX1_read 2 (some .int), Cond.fieldLink RX1 9 "SaltRow$Pond" "area" "I", Cond.fieldLink RX1 15 "SaltRow$Pond" "brine" "I", Cond.fieldLink RX1 22 "SaltRow$Pond" "salt" "I", Cond.fieldLink RX1 36 "SaltRow$Pond" "gypsum" "I", Cond.fieldLink RX1 25 "SaltRow$Pond" "bitter" "I", Cond.fieldLink RX1 39 "SaltRow$Pond" "fresh" "I", Cond.fieldLink RX1 42 "SaltRow$Pond" "crustSalt" "I", Cond.fieldLink RX1 45 "SaltRow$Pond" "crustDirt" "I", Cond.fieldLink RX1 55 "SaltRow$Pond" "wasHarvested" "Z", Cond.methodLink RX1 48 yX1_level, Cond.instanceMethod yX1_level, Cond.selects RX1 yX1_level yX1_level, Cond.code yX1_level cX1_level 1 (some .int), Cond.static yX3_portion, Cond.initialized RX3, Cond.code yX3_portion cX3_portion 6 (some .int), Cond.methodLink RX1 52 yX1_strength, Cond.instanceMethod yX1_strength]
def wsX2_sumOfPonds_r2 : List Cond := [Cond.selects RX1 yX1_strength yX1_strength, Cond.code yX1_strength cX1_strength 1 (some .int), Cond.constantLong RX1 28 (5), Cond.methodLink RX1 30 Lib.Math.min.name, Cond.static Lib.Math.min.name, Cond.initialized "java/lang/Math", Cond.code Lib.Math.min.name Lib.Math.min.code 2 (some .int)]
def wsX2_sumOfPonds : List Cond := .code yX2_sumOfPonds cX2_sumOfPonds 4 (some .int) :: ((wsX2_sumOfPonds_r1 ++ wsX2_sumOfPonds_r2) ++ wsX20 ++ wsX10)
def wsX3_init_r1 : List Cond := [Cond.methodLink RX3 1 objectInit, Cond.instanceMethod objectInit, Cond.code objectInit ⟨#[0xb1]⟩ 1 none, Cond.classLink RX3 7 RX2, Cond.instantiable RX2 5, Cond.initialized RX2, Cond.fieldLink RX3 10 "SaltRow" "row" "LSaltRow$Row;", Cond.fieldLink RX3 16 "SaltRow" "trial" "LSaltRow$Row;", Cond.classLink RX3 19 RX0, Cond.fieldLink RX3 21 "SaltRow" "families" "[LSaltRow$Family;", Cond.instantiable RX0 6, Cond.initialized RX0, Cond.methodLink RX3 9 yX2_init, Cond.instanceMethod yX2_init, Cond.code yX2_init cX2_init 2 none, Cond.methodLink RX2 3 objectInit, Cond.classLink RX2 9 RX1, Cond.fieldLink RX2 11 "SaltRow$Row" "ponds" "[LSaltRow$Pond;", Cond.instantiable RX1 12, Cond.initialized RX1, Cond.instanceMethod yX1_init, Cond.code yX1_init cX1_init 1 none, Cond.methodLink RX1 3 objectInit, Cond.fieldLink RX1 9 "SaltRow$Pond" "area" "I"]
def wsX3_init_r2 : List Cond := [Cond.instanceMethod yX0_init, Cond.code yX0_init cX0_init 1 none, Cond.methodLink RX0 3 objectInit, Cond.arrayClass .int, Cond.fieldLink RX0 9 "SaltRow$Family" "rights" "[I"]
def wsX3_init : List Cond := .code yX3_init cX3_init 2 none :: ((wsX3_init_r1 ++ wsX3_init_r2) ++ wsX20 ++ wsX30 ++ wsX00 ++ wsX10)
def wsX3_needPond : List Cond := .code yX3_needPond cX3_needPond 2 none :: ([.classLink RX3 311 "java/lang/IndexOutOfBoundsException", .initialized "java/lang/IndexOutOfBoundsException"] ++ (vx_atS RX3 315 "java/lang/IndexOutOfBoundsException" ["java/lang/RuntimeException", "java/lang/Exception"]).filter goodWord)
def wsX3_area : List Cond := .code yX3_area cX3_area 4 (some .int) :: ([.classLink RX3 30 "java/lang/IllegalArgumentException", .initialized "java/lang/IllegalArgumentException", .classLink RX3 41 "java/lang/IllegalStateException", .initialized "java/lang/IllegalStateException", .fieldLink RX3 10 "SaltRow" "row" "LSaltRow$Row;", .fieldLink RX3 37 "SaltRow$Row" "day" "I", .fieldLink RX3 46 "SaltRow$Row" "ponds" "[LSaltRow$Pond;", .fieldLink RX3 50 "SaltRow$Pond" "area" "I", .methodLink RX3 26 yX3_needPond, .instanceMethod yX3_needPond, .selects RX3 yX3_needPond yX3_needPond, .initialized RX3, .code yX3_needPond cX3_needPond 2 none, .classLink RX3 311 "java/lang/IndexOutOfBoundsException", .initialized "java/lang/IndexOutOfBoundsException"] ++ wsX30 ++ wsX20 ++ wsX10 ++ (vx_atS RX3 34 "java/lang/IllegalArgumentException" ["java/lang/RuntimeException", "java/lang/Exception"]).filter goodWord ++ (vx_atS RX3 45 "java/lang/IllegalStateException" ["java/lang/RuntimeException", "java/lang/Exception"]).filter goodWord ++ (vx_atS RX3 315 "java/lang/IndexOutOfBoundsException" ["java/lang/RuntimeException", "java/lang/Exception"]).filter goodWord)
def wsX3_gate : List Cond := .code yX3_gate cX3_gate 4 (some .boolean) :: ([.fieldLink RX3 10 "SaltRow" "row" "LSaltRow$Row;", .fieldLink RX3 46 "SaltRow$Row" "ponds" "[LSaltRow$Pond;", .fieldLink RX3 55 "SaltRow$Pond" "isOpen" "Z", .methodLink RX3 26 yX3_needPond, .instanceMethod yX3_needPond, .selects RX3 yX3_needPond yX3_needPond, .initialized RX3, .code yX3_needPond cX3_needPond 2 none, .classLink RX3 311 "java/lang/IndexOutOfBoundsException", .initialized "java/lang/IndexOutOfBoundsException"] ++ wsX30 ++ wsX20 ++ wsX10 ++ (vx_atS RX3 315 "java/lang/IndexOutOfBoundsException" ["java/lang/RuntimeException", "java/lang/Exception"]).filter goodWord)
def wsX3_needWeather : List Cond := .code yX3_needWeather cX3_needWeather 3 none :: ([.classLink RX3 30 "java/lang/IllegalArgumentException", .initialized "java/lang/IllegalArgumentException"] ++ (vx_atS RX3 34 "java/lang/IllegalArgumentException" ["java/lang/RuntimeException", "java/lang/Exception"]).filter goodWord)
def wsX3_pass_r1 : List Cond := [Cond.classLink RX3 30 "java/lang/IllegalArgumentException", Cond.initialized "java/lang/IllegalArgumentException", Cond.classLink RX3 41 "java/lang/IllegalStateException", Cond.initialized "java/lang/IllegalStateException", Cond.fieldLink RX3 10 "SaltRow" "row" "LSaltRow$Row;", Cond.fieldLink RX3 37 "SaltRow$Row" "day" "I", Cond.methodLink RX3 67 yX3_needWeather, Cond.instanceMethod yX3_needWeather, Cond.selects RX3 yX3_needWeather yX3_needWeather, Cond.initialized RX3, Cond.code yX3_needWeather cX3_needWeather 3 none, Cond.methodLink RX3 75 yX2_letDayGoBy, Cond.instanceMethod yX2_letDayGoBy, Cond.selects RX2 yX2_letDayGoBy yX2_letDayGoBy, Cond.initialized RX2, Cond.code yX2_letDayGoBy cX2_letDayGoBy 6 none, Cond.fieldLink RX2 18 "SaltRow$Row" "day" "I", Cond.fieldLink RX2 22 "SaltRow$Row" "sun" "I", Cond.fieldLink RX2 25 "SaltRow$Row" "wind" "I", Cond.fieldLink RX2 11 "SaltRow$Row" "ponds" "[LSaltRow$Pond;", Cond.fieldLink RX2 41 "SaltRow$Pond" "wasHarvested" "Z", Cond.methodLink RX2 35 yX2_letSeaIn, Cond.instanceMethod yX2_letSeaIn, Cond.selects RX2 yX2_letSeaIn yX2_letSeaIn]
def wsX3_pass_r2 : List Cond := [Cond.code yX2_letSeaIn cX2_letSeaIn 4 none, Cond.fieldLink RX2 66 "SaltRow$Pond" "isOpen" "Z", Cond.fieldLink RX2 69 "SaltRow$Pond" "area" "I", Cond.fieldLink RX2 28 "SaltRow$Row" "seaSalt" "I", Cond.static yX3_tideAt, Cond.code yX3_tideAt cX3_tideAt 1 (some .int), Cond.methodLink RX3 324 Lib.Math.abs.name, Cond.static Lib.Math.abs.name, Cond.initialized "java/lang/Math", Cond.code Lib.Math.abs.name Lib.Math.abs.code 1 (some .int), Cond.methodLink RX2 62 yX1_level, Cond.instanceMethod yX1_level, Cond.selects RX1 yX1_level yX1_level, Cond.initialized RX1, Cond.code yX1_level cX1_level 1 (some .int), Cond.fieldLink RX1 15 "SaltRow$Pond" "brine" "I", Cond.fieldLink RX1 9 "SaltRow$Pond" "area" "I", Cond.static yX3_portion, Cond.code yX3_portion cX3_portion 6 (some .int), Cond.methodLink RX2 72 yX1_takeIn, Cond.instanceMethod yX1_takeIn, Cond.selects RX1 yX1_takeIn yX1_takeIn, Cond.code yX1_takeIn cX1_takeIn 5 none, Cond.fieldLink RX1 22 "SaltRow$Pond" "salt" "I"]
def wsX3_pass_r3 : List Cond := [Cond.fieldLink RX1 36 "SaltRow$Pond" "gypsum" "I", Cond.fieldLink RX1 25 "SaltRow$Pond" "bitter" "I", Cond.methodLink RX2 38 yX2_letBrineFlowOn, Cond.instanceMethod yX2_letBrineFlowOn, Cond.selects RX2 yX2_letBrineFlowOn yX2_letBrineFlowOn, Cond.code yX2_letBrineFlowOn cX2_letBrineFlowOn 5 none, Cond.methodLink RX2 76 Lib.Math.min.name, Cond.static Lib.Math.min.name, Cond.code Lib.Math.min.name Lib.Math.min.code 2 (some .int), Cond.constantLong RX2 82 (2), Cond.methodLink RX2 88 yX1_giveBrine, Cond.instanceMethod yX1_giveBrine, Cond.selects RX1 yX1_giveBrine yX1_giveBrine, Cond.code yX1_giveBrine cX1_giveBrine 6 none, Cond.methodLink RX1 68 yX1_takeIn, Cond.methodLink RX2 45 yX1_rainFalls, Cond.instanceMethod yX1_rainFalls, Cond.selects RX1 yX1_rainFalls yX1_rainFalls, Cond.code yX1_rainFalls cX1_rainFalls 2 none, Cond.fieldLink RX1 65 "SaltRow$Pond" "isCovered" "Z", Cond.fieldLink RX1 39 "SaltRow$Pond" "fresh" "I", Cond.methodLink RX2 49 yX1_dryOut, Cond.instanceMethod yX1_dryOut, Cond.selects RX1 yX1_dryOut yX1_dryOut]
def wsX3_pass_r4 : List Cond := [Cond.code yX1_dryOut cX1_dryOut 4 none, Cond.methodLink RX1 30 Lib.Math.min.name, Cond.methodLink RX1 52 yX1_strength, Cond.instanceMethod yX1_strength, Cond.selects RX1 yX1_strength yX1_strength, Cond.code yX1_strength cX1_strength 1 (some .int), Cond.constantLong RX1 28 (5), Cond.static yX3_roundedUp, Cond.code yX3_roundedUp cX3_roundedUp 2 (some .int), Cond.methodLink RX2 52 yX1_mixFresh, Cond.instanceMethod yX1_mixFresh, Cond.selects RX1 yX1_mixFresh yX1_mixFresh, Cond.code yX1_mixFresh cX1_mixFresh 3 none, Cond.fieldLink RX1 42 "SaltRow$Pond" "crustSalt" "I", Cond.methodLink RX2 55 yX1_dropMinerals, Cond.instanceMethod yX1_dropMinerals, Cond.selects RX1 yX1_dropMinerals yX1_dropMinerals, Cond.code yX1_dropMinerals cX1_dropMinerals 3 none, Cond.fieldLink RX1 59 "SaltRow$Pond" "saltFallen" "I", Cond.fieldLink RX1 45 "SaltRow$Pond" "crustDirt" "I", Cond.methodLink RX1 75 yX1_above, Cond.instanceMethod yX1_above, Cond.selects RX1 yX1_above yX1_above, Cond.code yX1_above cX1_above 3 (some .int)]
def wsX3_pass_r5 : List Cond := [Cond.methodLink RX1 78 Lib.MathLoose.max_long.x, Cond.static Lib.MathLoose.max_long.x, Cond.code Lib.MathLoose.max_long.x Lib.MathLoose.max_long.code 4 (some .long), Cond.methodLink RX3 79 yX2_saltFallenInPans, Cond.instanceMethod yX2_saltFallenInPans, Cond.selects RX2 yX2_saltFallenInPans yX2_saltFallenInPans, Cond.code yX2_saltFallenInPans cX2_saltFallenInPans 3 (some .int), Cond.fieldLink RX2 95 "SaltRow$Pond" "saltFallen" "I"]
def wsX3_pass : List Cond := .code yX3_pass cX3_pass 7 (some .int) :: ((wsX3_pass_r1 ++ (wsX3_pass_r2 ++ (wsX3_pass_r3 ++ (wsX3_pass_r4 ++ wsX3_pass_r5)))) ++ wsX30 ++ wsX20 ++ wsX10 ++ (vx_atS RX3 34 "java/lang/IllegalArgumentException" ["java/lang/RuntimeException", "java/lang/Exception"]).filter goodWord ++ (vx_atS RX3 45 "java/lang/IllegalStateException" ["java/lang/RuntimeException", "java/lang/Exception"]).filter goodWord)
def wsX3_skim : List Cond := .code yX3_skim cX3_skim 3 (some .int) :: ([.fieldLink RX3 10 "SaltRow" "row" "LSaltRow$Row;", .fieldLink RX3 46 "SaltRow$Row" "ponds" "[LSaltRow$Pond;", .fieldLink RX3 83 "SaltRow$Pond" "fresh" "I", .fieldLink RX3 86 "SaltRow" "skimmed" "I", .methodLink RX3 26 yX3_needPond, .instanceMethod yX3_needPond, .selects RX3 yX3_needPond yX3_needPond, .initialized RX3, .code yX3_needPond cX3_needPond 2 none, .classLink RX3 311 "java/lang/IndexOutOfBoundsException", .initialized "java/lang/IndexOutOfBoundsException"] ++ wsX30 ++ wsX20 ++ wsX10 ++ (vx_atS RX3 315 "java/lang/IndexOutOfBoundsException" ["java/lang/RuntimeException", "java/lang/Exception"]).filter goodWord)
def wsX3_family : List Cond := .code yX3_family cX3_family 1 (some .int) :: ([.classLink RX3 41 "java/lang/IllegalStateException", .initialized "java/lang/IllegalStateException", .fieldLink RX3 129 "SaltRow" "familyCount" "I"] ++ wsX30 ++ (vx_atS RX3 45 "java/lang/IllegalStateException" ["java/lang/RuntimeException", "java/lang/Exception"]).filter goodWord)
def wsX3_needFamily : List Cond := .code yX3_needFamily cX3_needFamily 2 none :: ([.classLink RX3 311 "java/lang/IndexOutOfBoundsException", .initialized "java/lang/IndexOutOfBoundsException", .fieldLink RX3 129 "SaltRow" "familyCount" "I"] ++ wsX30 ++ (vx_atS RX3 315 "java/lang/IndexOutOfBoundsException" ["java/lang/RuntimeException", "java/lang/Exception"]).filter goodWord)
def wsX3_needPan : List Cond := .code yX3_needPan cX3_needPan 2 none :: ([.classLink RX3 311 "java/lang/IndexOutOfBoundsException", .initialized "java/lang/IndexOutOfBoundsException"] ++ (vx_atS RX3 315 "java/lang/IndexOutOfBoundsException" ["java/lang/RuntimeException", "java/lang/Exception"]).filter goodWord)
def wsX3_rightsIn : List Cond := .code yX3_rightsIn cX3_rightsIn 4 (some .int) :: ([.fieldLink RX3 129 "SaltRow" "familyCount" "I", .fieldLink RX3 21 "SaltRow" "families" "[LSaltRow$Family;", .fieldLink RX3 139 "SaltRow$Family" "rights" "[I"] ++ wsX30 ++ wsX00)
def wsX3_right : List Cond := .code yX3_right cX3_right 5 (some .int) :: ([.classLink RX3 30 "java/lang/IllegalArgumentException", .initialized "java/lang/IllegalArgumentException", .classLink RX3 41 "java/lang/IllegalStateException", .initialized "java/lang/IllegalStateException", .fieldLink RX3 21 "SaltRow" "families" "[LSaltRow$Family;", .fieldLink RX3 139 "SaltRow$Family" "rights" "[I", .methodLink RX3 134 yX3_needFamily, .instanceMethod yX3_needFamily, .selects RX3 yX3_needFamily yX3_needFamily, .initialized RX3, .code yX3_needFamily cX3_needFamily 2 none, .classLink RX3 311 "java/lang/IndexOutOfBoundsException", .initialized "java/lang/IndexOutOfBoundsException", .fieldLink RX3 129 "SaltRow" "familyCount" "I", .methodLink RX3 59 yX3_needPan, .instanceMethod yX3_needPan, .selects RX3 yX3_needPan yX3_needPan, .code yX3_needPan cX3_needPan 2 none, .methodLink RX3 143 yX3_rightsIn, .instanceMethod yX3_rightsIn, .selects RX3 yX3_rightsIn yX3_rightsIn, .code yX3_rightsIn cX3_rightsIn 4 (some .int)] ++ wsX30 ++ wsX00 ++ (vx_atS RX3 34 "java/lang/IllegalArgumentException" ["java/lang/RuntimeException", "java/lang/Exception"]).filter goodWord ++ (vx_atS RX3 45 "java/lang/IllegalStateException" ["java/lang/RuntimeException", "java/lang/Exception"]).filter goodWord ++ (vx_atS RX3 315 "java/lang/IndexOutOfBoundsException" ["java/lang/RuntimeException", "java/lang/Exception"]).filter goodWord)
def wsX3_crownsPart : List Cond := .code yX3_crownsPart cX3_crownsPart 1 (some .int) :: ([])
def wsX3_shareOut : List Cond := .code yX3_shareOut cX3_shareOut 10 none :: ([.fieldLink RX3 129 "SaltRow" "familyCount" "I", .fieldLink RX3 21 "SaltRow" "families" "[LSaltRow$Family;", .fieldLink RX3 139 "SaltRow$Family" "rights" "[I", .constantLong RX3 267 (12), .fieldLink RX3 246 "SaltRow" "cloisterSalt" "I", .fieldLink RX3 249 "SaltRow" "cloisterDirt" "I", .methodLink RX3 214 yX3_portion, .static yX3_portion, .initialized RX3, .code yX3_portion cX3_portion 6 (some .int), .methodLink RX3 308 yX0_getSalt, .instanceMethod yX0_getSalt, .selects RX0 yX0_getSalt yX0_getSalt, .initialized RX0, .code yX0_getSalt cX0_getSalt 3 none, .fieldLink RX0 15 "SaltRow$Family" "salt" "I", .fieldLink RX0 19 "SaltRow$Family" "dirt" "I", .fieldLink RX0 29 "SaltRow$Family" "saltGot" "I"] ++ wsX30 ++ wsX00)
def wsX3_harvest_r1 : List Cond := [Cond.classLink RX3 41 "java/lang/IllegalStateException", Cond.initialized "java/lang/IllegalStateException", Cond.fieldLink RX3 10 "SaltRow" "row" "LSaltRow$Row;", Cond.fieldLink RX3 46 "SaltRow$Row" "ponds" "[LSaltRow$Pond;", Cond.fieldLink RX3 164 "SaltRow$Pond" "crustSalt" "I", Cond.fieldLink RX3 167 "SaltRow$Pond" "crustDirt" "I", Cond.fieldLink RX3 170 "SaltRow$Pond" "wasHarvested" "Z", Cond.fieldLink RX3 173 "SaltRow" "crownSalt" "I", Cond.methodLink RX3 59 yX3_needPan, Cond.instanceMethod yX3_needPan, Cond.selects RX3 yX3_needPan yX3_needPan, Cond.initialized RX3, Cond.code yX3_needPan cX3_needPan 2 none, Cond.classLink RX3 311 "java/lang/IndexOutOfBoundsException", Cond.initialized "java/lang/IndexOutOfBoundsException", Cond.methodLink RX3 148 yX1_canBeHarvested, Cond.instanceMethod yX1_canBeHarvested, Cond.selects RX1 yX1_canBeHarvested yX1_canBeHarvested, Cond.initialized RX1, Cond.code yX1_canBeHarvested cX1_canBeHarvested 1 (some .boolean), Cond.fieldLink RX1 42 "SaltRow$Pond" "crustSalt" "I", Cond.fieldLink RX1 55 "SaltRow$Pond" "wasHarvested" "Z", Cond.methodLink RX3 154 yX1_saltOfHarvest, Cond.instanceMethod yX1_saltOfHarvest]
def wsX3_harvest_r2 : List Cond := [Cond.selects RX1 yX1_saltOfHarvest yX1_saltOfHarvest, Cond.code yX1_saltOfHarvest cX1_saltOfHarvest 2 (some .int), Cond.fieldLink RX1 9 "SaltRow$Pond" "area" "I", Cond.methodLink RX1 30 Lib.Math.min.name, Cond.static Lib.Math.min.name, Cond.initialized "java/lang/Math", Cond.code Lib.Math.min.name Lib.Math.min.code 2 (some .int), Cond.methodLink RX3 158 yX1_dirtOfCrustWith, Cond.instanceMethod yX1_dirtOfCrustWith, Cond.selects RX1 yX1_dirtOfCrustWith yX1_dirtOfCrustWith, Cond.code yX1_dirtOfCrustWith cX1_dirtOfCrustWith 2 (some .int), Cond.fieldLink RX1 45 "SaltRow$Pond" "crustDirt" "I", Cond.static yX3_portion, Cond.code yX3_portion cX3_portion 6 (some .int), Cond.methodLink RX3 161 yX1_dirtOfFloor, Cond.instanceMethod yX1_dirtOfFloor, Cond.selects RX1 yX1_dirtOfFloor yX1_dirtOfFloor, Cond.code yX1_dirtOfFloor cX1_dirtOfFloor 2 (some .int), Cond.methodLink RX3 176 yX3_crownsPart, Cond.static yX3_crownsPart, Cond.code yX3_crownsPart cX3_crownsPart 1 (some .int), Cond.methodLink RX3 179 yX3_shareOut, Cond.instanceMethod yX3_shareOut, Cond.selects RX3 yX3_shareOut yX3_shareOut]
def wsX3_harvest_r3 : List Cond := [Cond.code yX3_shareOut cX3_shareOut 10 none, Cond.fieldLink RX3 129 "SaltRow" "familyCount" "I", Cond.fieldLink RX3 21 "SaltRow" "families" "[LSaltRow$Family;", Cond.fieldLink RX3 139 "SaltRow$Family" "rights" "[I", Cond.constantLong RX3 267 (12), Cond.fieldLink RX3 246 "SaltRow" "cloisterSalt" "I", Cond.fieldLink RX3 249 "SaltRow" "cloisterDirt" "I", Cond.methodLink RX3 214 yX3_portion, Cond.methodLink RX3 308 yX0_getSalt, Cond.instanceMethod yX0_getSalt, Cond.selects RX0 yX0_getSalt yX0_getSalt, Cond.initialized RX0, Cond.code yX0_getSalt cX0_getSalt 3 none, Cond.fieldLink RX0 15 "SaltRow$Family" "salt" "I", Cond.fieldLink RX0 19 "SaltRow$Family" "dirt" "I", Cond.fieldLink RX0 29 "SaltRow$Family" "saltGot" "I"]
def wsX3_harvest : List Cond := .code yX3_harvest cX3_harvest 7 (some .int) :: ((wsX3_harvest_r1 ++ (wsX3_harvest_r2 ++ wsX3_harvest_r3)) ++ wsX30 ++ wsX20 ++ wsX10 ++ wsX00 ++ (vx_atS RX3 45 "java/lang/IllegalStateException" ["java/lang/RuntimeException", "java/lang/Exception"]).filter goodWord ++ (vx_atS RX3 315 "java/lang/IndexOutOfBoundsException" ["java/lang/RuntimeException", "java/lang/Exception"]).filter goodWord)
def wsX3_wash : List Cond := .code yX3_wash cX3_wash 4 (some .int) :: ([.classLink RX3 41 "java/lang/IllegalStateException", .initialized "java/lang/IllegalStateException", .fieldLink RX3 21 "SaltRow" "families" "[LSaltRow$Family;", .fieldLink RX3 197 "SaltRow$Family" "salt" "I", .fieldLink RX3 200 "SaltRow$Family" "dirt" "I", .fieldLink RX3 100 "SaltRow" "lostSalt" "I", .methodLink RX3 134 yX3_needFamily, .instanceMethod yX3_needFamily, .selects RX3 yX3_needFamily yX3_needFamily, .initialized RX3, .code yX3_needFamily cX3_needFamily 2 none, .classLink RX3 311 "java/lang/IndexOutOfBoundsException", .initialized "java/lang/IndexOutOfBoundsException", .fieldLink RX3 129 "SaltRow" "familyCount" "I", .methodLink RX3 122 yX3_roundedUp, .static yX3_roundedUp, .code yX3_roundedUp cX3_roundedUp 2 (some .int), .methodLink RX3 203 yX3_purity, .static yX3_purity, .code yX3_purity cX3_purity 2 (some .int), .constantLong RX3 327 (100), .methodLink RX3 214 yX3_portion, .static yX3_portion, .code yX3_portion cX3_portion 6 (some .int)] ++ wsX30 ++ wsX00 ++ (vx_atS RX3 45 "java/lang/IllegalStateException" ["java/lang/RuntimeException", "java/lang/Exception"]).filter goodWord ++ (vx_atS RX3 315 "java/lang/IndexOutOfBoundsException" ["java/lang/RuntimeException", "java/lang/Exception"]).filter goodWord)
def wsX3_ofPond_r1 : List Cond := [Cond.classLink RX3 30 "java/lang/IllegalArgumentException", Cond.initialized "java/lang/IllegalArgumentException", Cond.fieldLink RX3 10 "SaltRow" "row" "LSaltRow$Row;", Cond.fieldLink RX3 46 "SaltRow$Row" "ponds" "[LSaltRow$Pond;", Cond.methodLink RX3 26 yX3_needPond, Cond.instanceMethod yX3_needPond, Cond.selects RX3 yX3_needPond yX3_needPond, Cond.initialized RX3, Cond.code yX3_needPond cX3_needPond 2 none, Cond.classLink RX3 311 "java/lang/IndexOutOfBoundsException", Cond.initialized "java/lang/IndexOutOfBoundsException", Cond.methodLink RX3 223 yX1_read, Cond.instanceMethod yX1_read, Cond.selects RX1 yX1_read yX1_read, Cond.initialized RX1, Cond.code yX1_read cX1_read 2 (some .int), Cond.fieldLink RX1 9 "SaltRow$Pond" "area" "I", Cond.fieldLink RX1 15 "SaltRow$Pond" "brine" "I", Cond.fieldLink RX1 22 "SaltRow$Pond" "salt" "I", Cond.fieldLink RX1 36 "SaltRow$Pond" "gypsum" "I", Cond.fieldLink RX1 25 "SaltRow$Pond" "bitter" "I", Cond.fieldLink RX1 39 "SaltRow$Pond" "fresh" "I", Cond.fieldLink RX1 42 "SaltRow$Pond" "crustSalt" "I", Cond.fieldLink RX1 45 "SaltRow$Pond" "crustDirt" "I"]
def wsX3_ofPond_r2 : List Cond := [Cond.fieldLink RX1 55 "SaltRow$Pond" "wasHarvested" "Z", Cond.methodLink RX1 48 yX1_level, Cond.instanceMethod yX1_level, Cond.selects RX1 yX1_level yX1_level, Cond.code yX1_level cX1_level 1 (some .int), Cond.static yX3_portion, Cond.code yX3_portion cX3_portion 6 (some .int), Cond.methodLink RX1 52 yX1_strength, Cond.instanceMethod yX1_strength, Cond.selects RX1 yX1_strength yX1_strength, Cond.code yX1_strength cX1_strength 1 (some .int), Cond.constantLong RX1 28 (5), Cond.methodLink RX1 30 Lib.Math.min.name, Cond.static Lib.Math.min.name, Cond.initialized "java/lang/Math", Cond.code Lib.Math.min.name Lib.Math.min.code 2 (some .int)]
def wsX3_ofPond : List Cond := .code yX3_ofPond cX3_ofPond 3 (some .int) :: ((wsX3_ofPond_r1 ++ wsX3_ofPond_r2) ++ wsX30 ++ wsX20 ++ wsX10 ++ (vx_atS RX3 34 "java/lang/IllegalArgumentException" ["java/lang/RuntimeException", "java/lang/Exception"]).filter goodWord ++ (vx_atS RX3 315 "java/lang/IndexOutOfBoundsException" ["java/lang/RuntimeException", "java/lang/Exception"]).filter goodWord)
def wsX3_ofFamily_r1 : List Cond := [Cond.classLink RX3 30 "java/lang/IllegalArgumentException", Cond.initialized "java/lang/IllegalArgumentException", Cond.fieldLink RX3 21 "SaltRow" "families" "[LSaltRow$Family;", Cond.methodLink RX3 134 yX3_needFamily, Cond.instanceMethod yX3_needFamily, Cond.selects RX3 yX3_needFamily yX3_needFamily, Cond.initialized RX3, Cond.code yX3_needFamily cX3_needFamily 2 none, Cond.classLink RX3 311 "java/lang/IndexOutOfBoundsException", Cond.initialized "java/lang/IndexOutOfBoundsException", Cond.fieldLink RX3 129 "SaltRow" "familyCount" "I", Cond.methodLink RX3 228 yX0_read, Cond.instanceMethod yX0_read, Cond.selects RX0 yX0_read yX0_read, Cond.initialized RX0, Cond.code yX0_read cX0_read 2 (some .int), Cond.fieldLink RX0 15 "SaltRow$Family" "salt" "I", Cond.fieldLink RX0 19 "SaltRow$Family" "dirt" "I", Cond.fieldLink RX0 26 "SaltRow$Family" "coins" "I", Cond.fieldLink RX0 29 "SaltRow$Family" "saltGot" "I", Cond.fieldLink RX0 32 "SaltRow$Family" "saltSold" "I", Cond.static yX3_purity, Cond.code yX3_purity cX3_purity 2 (some .int), Cond.constantLong RX3 327 (100)]
def wsX3_ofFamily_r2 : List Cond := [Cond.methodLink RX3 214 yX3_portion, Cond.static yX3_portion, Cond.code yX3_portion cX3_portion 6 (some .int)]
def wsX3_ofFamily : List Cond := .code yX3_ofFamily cX3_ofFamily 3 (some .int) :: ((wsX3_ofFamily_r1 ++ wsX3_ofFamily_r2) ++ wsX30 ++ wsX00 ++ (vx_atS RX3 34 "java/lang/IllegalArgumentException" ["java/lang/RuntimeException", "java/lang/Exception"]).filter goodWord ++ (vx_atS RX3 315 "java/lang/IndexOutOfBoundsException" ["java/lang/RuntimeException", "java/lang/Exception"]).filter goodWord)
def wsX3_rightOf : List Cond := .code yX3_rightOf cX3_rightOf 3 (some .int) :: ([.fieldLink RX3 21 "SaltRow" "families" "[LSaltRow$Family;", .fieldLink RX3 139 "SaltRow$Family" "rights" "[I", .methodLink RX3 134 yX3_needFamily, .instanceMethod yX3_needFamily, .selects RX3 yX3_needFamily yX3_needFamily, .initialized RX3, .code yX3_needFamily cX3_needFamily 2 none, .classLink RX3 311 "java/lang/IndexOutOfBoundsException", .initialized "java/lang/IndexOutOfBoundsException", .fieldLink RX3 129 "SaltRow" "familyCount" "I", .methodLink RX3 59 yX3_needPan, .instanceMethod yX3_needPan, .selects RX3 yX3_needPan yX3_needPan, .code yX3_needPan cX3_needPan 2 none] ++ wsX30 ++ wsX00 ++ (vx_atS RX3 315 "java/lang/IndexOutOfBoundsException" ["java/lang/RuntimeException", "java/lang/Exception"]).filter goodWord)
def wsX3_sumOfFamilies : List Cond := .code yX3_sumOfFamilies cX3_sumOfFamilies 4 (some .int) :: ([.fieldLink RX3 129 "SaltRow" "familyCount" "I", .fieldLink RX3 21 "SaltRow" "families" "[LSaltRow$Family;", .methodLink RX3 228 yX0_read, .instanceMethod yX0_read, .selects RX0 yX0_read yX0_read, .initialized RX0, .code yX0_read cX0_read 2 (some .int), .fieldLink RX0 15 "SaltRow$Family" "salt" "I", .fieldLink RX0 19 "SaltRow$Family" "dirt" "I", .fieldLink RX0 26 "SaltRow$Family" "coins" "I", .fieldLink RX0 29 "SaltRow$Family" "saltGot" "I", .fieldLink RX0 32 "SaltRow$Family" "saltSold" "I", .static yX3_purity, .initialized RX3, .code yX3_purity cX3_purity 2 (some .int), .constantLong RX3 327 (100), .methodLink RX3 214 yX3_portion, .static yX3_portion, .code yX3_portion cX3_portion 6 (some .int)] ++ wsX30 ++ wsX00)
def wsX3_many_r1 : List Cond := [Cond.classLink RX3 30 "java/lang/IllegalArgumentException", Cond.initialized "java/lang/IllegalArgumentException", Cond.fieldLink RX3 10 "SaltRow" "row" "LSaltRow$Row;", Cond.fieldLink RX3 37 "SaltRow$Row" "day" "I", Cond.fieldLink RX3 129 "SaltRow" "familyCount" "I", Cond.fieldLink RX3 237 "SaltRow$Row" "seaSalt" "I", Cond.fieldLink RX3 100 "SaltRow" "lostSalt" "I", Cond.fieldLink RX3 173 "SaltRow" "crownSalt" "I", Cond.fieldLink RX3 246 "SaltRow" "cloisterSalt" "I", Cond.fieldLink RX3 249 "SaltRow" "cloisterDirt" "I", Cond.fieldLink RX3 86 "SaltRow" "skimmed" "I", Cond.fieldLink RX3 119 "SaltRow" "worksCoins" "I", Cond.methodLink RX3 231 yX2_openGates, Cond.instanceMethod yX2_openGates, Cond.selects RX2 yX2_openGates yX2_openGates, Cond.initialized RX2, Cond.code yX2_openGates cX2_openGates 3 (some .int), Cond.fieldLink RX2 11 "SaltRow$Row" "ponds" "[LSaltRow$Pond;", Cond.fieldLink RX2 66 "SaltRow$Pond" "isOpen" "Z", Cond.methodLink RX3 234 yX2_coveredPans, Cond.instanceMethod yX2_coveredPans, Cond.selects RX2 yX2_coveredPans yX2_coveredPans, Cond.code yX2_coveredPans cX2_coveredPans 3 (some .int), Cond.fieldLink RX2 92 "SaltRow$Pond" "isCovered" "Z"]
def wsX3_many_r2 : List Cond := [Cond.methodLink RX3 240 yX2_sumOfPonds, Cond.instanceMethod yX2_sumOfPonds, Cond.selects RX2 yX2_sumOfPonds yX2_sumOfPonds, Cond.code yX2_sumOfPonds cX2_sumOfPonds 4 (some .int), Cond.methodLink RX2 104 yX1_read, Cond.instanceMethod yX1_read, Cond.selects RX1 yX1_read yX1_read, Cond.initialized RX1, Cond.code yX1_read cX1_read 2 (some .int), Cond.fieldLink RX1 9 "SaltRow$Pond" "area" "I", Cond.fieldLink RX1 15 "SaltRow$Pond" "brine" "I", Cond.fieldLink RX1 22 "SaltRow$Pond" "salt" "I", Cond.fieldLink RX1 36 "SaltRow$Pond" "gypsum" "I", Cond.fieldLink RX1 25 "SaltRow$Pond" "bitter" "I", Cond.fieldLink RX1 39 "SaltRow$Pond" "fresh" "I", Cond.fieldLink RX1 42 "SaltRow$Pond" "crustSalt" "I", Cond.fieldLink RX1 45 "SaltRow$Pond" "crustDirt" "I", Cond.fieldLink RX1 55 "SaltRow$Pond" "wasHarvested" "Z", Cond.methodLink RX1 48 yX1_level, Cond.instanceMethod yX1_level, Cond.selects RX1 yX1_level yX1_level, Cond.code yX1_level cX1_level 1 (some .int), Cond.static yX3_portion, Cond.initialized RX3]
def wsX3_many_r3 : List Cond := [Cond.code yX3_portion cX3_portion 6 (some .int), Cond.methodLink RX1 52 yX1_strength, Cond.instanceMethod yX1_strength, Cond.selects RX1 yX1_strength yX1_strength, Cond.code yX1_strength cX1_strength 1 (some .int), Cond.constantLong RX1 28 (5), Cond.methodLink RX1 30 Lib.Math.min.name, Cond.static Lib.Math.min.name, Cond.initialized "java/lang/Math", Cond.code Lib.Math.min.name Lib.Math.min.code 2 (some .int), Cond.methodLink RX3 243 yX3_sumOfFamilies, Cond.instanceMethod yX3_sumOfFamilies, Cond.selects RX3 yX3_sumOfFamilies yX3_sumOfFamilies, Cond.code yX3_sumOfFamilies cX3_sumOfFamilies 4 (some .int), Cond.fieldLink RX3 21 "SaltRow" "families" "[LSaltRow$Family;", Cond.methodLink RX3 228 yX0_read, Cond.instanceMethod yX0_read, Cond.selects RX0 yX0_read yX0_read, Cond.initialized RX0, Cond.code yX0_read cX0_read 2 (some .int), Cond.fieldLink RX0 15 "SaltRow$Family" "salt" "I", Cond.fieldLink RX0 19 "SaltRow$Family" "dirt" "I", Cond.fieldLink RX0 26 "SaltRow$Family" "coins" "I", Cond.fieldLink RX0 29 "SaltRow$Family" "saltGot" "I"]
def wsX3_many_r4 : List Cond := [Cond.fieldLink RX0 32 "SaltRow$Family" "saltSold" "I", Cond.static yX3_purity, Cond.code yX3_purity cX3_purity 2 (some .int), Cond.constantLong RX3 327 (100), Cond.methodLink RX3 214 yX3_portion]
def wsX3_many : List Cond := .code yX3_many cX3_many 2 (some .int) :: ((wsX3_many_r1 ++ (wsX3_many_r2 ++ (wsX3_many_r3 ++ wsX3_many_r4))) ++ wsX30 ++ wsX20 ++ wsX10 ++ wsX00 ++ (vx_atS RX3 34 "java/lang/IllegalArgumentException" ["java/lang/RuntimeException", "java/lang/Exception"]).filter goodWord)
def wsX3_crustIn_r1 : List Cond := [Cond.fieldLink RX3 16 "SaltRow" "trial" "LSaltRow$Row;", Cond.fieldLink RX3 10 "SaltRow" "row" "LSaltRow$Row;", Cond.fieldLink RX3 46 "SaltRow$Row" "ponds" "[LSaltRow$Pond;", Cond.fieldLink RX3 258 "SaltRow$Pond" "saltFallen" "I", Cond.methodLink RX3 59 yX3_needPan, Cond.instanceMethod yX3_needPan, Cond.selects RX3 yX3_needPan yX3_needPan, Cond.initialized RX3, Cond.code yX3_needPan cX3_needPan 2 none, Cond.classLink RX3 311 "java/lang/IndexOutOfBoundsException", Cond.initialized "java/lang/IndexOutOfBoundsException", Cond.methodLink RX3 67 yX3_needWeather, Cond.instanceMethod yX3_needWeather, Cond.selects RX3 yX3_needWeather yX3_needWeather, Cond.code yX3_needWeather cX3_needWeather 3 none, Cond.classLink RX3 30 "java/lang/IllegalArgumentException", Cond.initialized "java/lang/IllegalArgumentException", Cond.methodLink RX3 254 yX2_copyFrom, Cond.instanceMethod yX2_copyFrom, Cond.selects RX2 yX2_copyFrom yX2_copyFrom, Cond.initialized RX2, Cond.code yX2_copyFrom cX2_copyFrom 3 none, Cond.fieldLink RX2 18 "SaltRow$Row" "day" "I", Cond.fieldLink RX2 22 "SaltRow$Row" "sun" "I"]
def wsX3_crustIn_r2 : List Cond := [Cond.fieldLink RX2 25 "SaltRow$Row" "wind" "I", Cond.fieldLink RX2 28 "SaltRow$Row" "seaSalt" "I", Cond.fieldLink RX2 11 "SaltRow$Row" "ponds" "[LSaltRow$Pond;", Cond.methodLink RX2 31 yX1_copyFrom, Cond.instanceMethod yX1_copyFrom, Cond.selects RX1 yX1_copyFrom yX1_copyFrom, Cond.initialized RX1, Cond.code yX1_copyFrom cX1_copyFrom 2 none, Cond.fieldLink RX1 9 "SaltRow$Pond" "area" "I", Cond.fieldLink RX1 15 "SaltRow$Pond" "brine" "I", Cond.fieldLink RX1 22 "SaltRow$Pond" "salt" "I", Cond.fieldLink RX1 36 "SaltRow$Pond" "gypsum" "I", Cond.fieldLink RX1 25 "SaltRow$Pond" "bitter" "I", Cond.fieldLink RX1 39 "SaltRow$Pond" "fresh" "I", Cond.fieldLink RX1 42 "SaltRow$Pond" "crustSalt" "I", Cond.fieldLink RX1 45 "SaltRow$Pond" "crustDirt" "I", Cond.fieldLink RX1 59 "SaltRow$Pond" "saltFallen" "I", Cond.fieldLink RX1 62 "SaltRow$Pond" "isOpen" "Z", Cond.fieldLink RX1 65 "SaltRow$Pond" "isCovered" "Z", Cond.fieldLink RX1 55 "SaltRow$Pond" "wasHarvested" "Z", Cond.methodLink RX3 75 yX2_letDayGoBy, Cond.instanceMethod yX2_letDayGoBy, Cond.selects RX2 yX2_letDayGoBy yX2_letDayGoBy, Cond.code yX2_letDayGoBy cX2_letDayGoBy 6 none]
def wsX3_crustIn_r3 : List Cond := [Cond.fieldLink RX2 41 "SaltRow$Pond" "wasHarvested" "Z", Cond.methodLink RX2 35 yX2_letSeaIn, Cond.instanceMethod yX2_letSeaIn, Cond.selects RX2 yX2_letSeaIn yX2_letSeaIn, Cond.code yX2_letSeaIn cX2_letSeaIn 4 none, Cond.fieldLink RX2 66 "SaltRow$Pond" "isOpen" "Z", Cond.fieldLink RX2 69 "SaltRow$Pond" "area" "I", Cond.static yX3_tideAt, Cond.code yX3_tideAt cX3_tideAt 1 (some .int), Cond.methodLink RX3 324 Lib.Math.abs.name, Cond.static Lib.Math.abs.name, Cond.initialized "java/lang/Math", Cond.code Lib.Math.abs.name Lib.Math.abs.code 1 (some .int), Cond.methodLink RX2 62 yX1_level, Cond.instanceMethod yX1_level, Cond.selects RX1 yX1_level yX1_level, Cond.code yX1_level cX1_level 1 (some .int), Cond.static yX3_portion, Cond.code yX3_portion cX3_portion 6 (some .int), Cond.methodLink RX2 72 yX1_takeIn, Cond.instanceMethod yX1_takeIn, Cond.selects RX1 yX1_takeIn yX1_takeIn, Cond.code yX1_takeIn cX1_takeIn 5 none, Cond.methodLink RX2 38 yX2_letBrineFlowOn]
def wsX3_crustIn_r4 : List Cond := [Cond.instanceMethod yX2_letBrineFlowOn, Cond.selects RX2 yX2_letBrineFlowOn yX2_letBrineFlowOn, Cond.code yX2_letBrineFlowOn cX2_letBrineFlowOn 5 none, Cond.methodLink RX2 76 Lib.Math.min.name, Cond.static Lib.Math.min.name, Cond.code Lib.Math.min.name Lib.Math.min.code 2 (some .int), Cond.constantLong RX2 82 (2), Cond.methodLink RX2 88 yX1_giveBrine, Cond.instanceMethod yX1_giveBrine, Cond.selects RX1 yX1_giveBrine yX1_giveBrine, Cond.code yX1_giveBrine cX1_giveBrine 6 none, Cond.methodLink RX1 68 yX1_takeIn, Cond.methodLink RX2 45 yX1_rainFalls, Cond.instanceMethod yX1_rainFalls, Cond.selects RX1 yX1_rainFalls yX1_rainFalls, Cond.code yX1_rainFalls cX1_rainFalls 2 none, Cond.methodLink RX2 49 yX1_dryOut, Cond.instanceMethod yX1_dryOut, Cond.selects RX1 yX1_dryOut yX1_dryOut, Cond.code yX1_dryOut cX1_dryOut 4 none, Cond.methodLink RX1 30 Lib.Math.min.name, Cond.methodLink RX1 52 yX1_strength, Cond.instanceMethod yX1_strength, Cond.selects RX1 yX1_strength yX1_strength]
def wsX3_crustIn_r5 : List Cond := [Cond.code yX1_strength cX1_strength 1 (some .int), Cond.constantLong RX1 28 (5), Cond.static yX3_roundedUp, Cond.code yX3_roundedUp cX3_roundedUp 2 (some .int), Cond.methodLink RX2 52 yX1_mixFresh, Cond.instanceMethod yX1_mixFresh, Cond.selects RX1 yX1_mixFresh yX1_mixFresh, Cond.code yX1_mixFresh cX1_mixFresh 3 none, Cond.methodLink RX2 55 yX1_dropMinerals, Cond.instanceMethod yX1_dropMinerals, Cond.selects RX1 yX1_dropMinerals yX1_dropMinerals, Cond.code yX1_dropMinerals cX1_dropMinerals 3 none, Cond.methodLink RX1 75 yX1_above, Cond.instanceMethod yX1_above, Cond.selects RX1 yX1_above yX1_above, Cond.code yX1_above cX1_above 3 (some .int), Cond.methodLink RX1 78 Lib.MathLoose.max_long.x, Cond.static Lib.MathLoose.max_long.x, Cond.code Lib.MathLoose.max_long.x Lib.MathLoose.max_long.code 4 (some .long)]
def wsX3_crustIn : List Cond := .code yX3_crustIn cX3_crustIn 5 (some .int) :: ((wsX3_crustIn_r1 ++ (wsX3_crustIn_r2 ++ (wsX3_crustIn_r3 ++ (wsX3_crustIn_r4 ++ wsX3_crustIn_r5)))) ++ wsX30 ++ wsX20 ++ wsX10 ++ (vx_atS RX3 315 "java/lang/IndexOutOfBoundsException" ["java/lang/RuntimeException", "java/lang/Exception"]).filter goodWord ++ (vx_atS RX3 34 "java/lang/IllegalArgumentException" ["java/lang/RuntimeException", "java/lang/Exception"]).filter goodWord)
def wsX3_saltInPansWith_r1 : List Cond := [Cond.fieldLink RX3 16 "SaltRow" "trial" "LSaltRow$Row;", Cond.fieldLink RX3 10 "SaltRow" "row" "LSaltRow$Row;", Cond.methodLink RX3 254 yX2_copyFrom, Cond.instanceMethod yX2_copyFrom, Cond.selects RX2 yX2_copyFrom yX2_copyFrom, Cond.initialized RX2, Cond.code yX2_copyFrom cX2_copyFrom 3 none, Cond.fieldLink RX2 18 "SaltRow$Row" "day" "I", Cond.fieldLink RX2 22 "SaltRow$Row" "sun" "I", Cond.fieldLink RX2 25 "SaltRow$Row" "wind" "I", Cond.fieldLink RX2 28 "SaltRow$Row" "seaSalt" "I", Cond.fieldLink RX2 11 "SaltRow$Row" "ponds" "[LSaltRow$Pond;", Cond.methodLink RX2 31 yX1_copyFrom, Cond.instanceMethod yX1_copyFrom, Cond.selects RX1 yX1_copyFrom yX1_copyFrom, Cond.initialized RX1, Cond.code yX1_copyFrom cX1_copyFrom 2 none, Cond.fieldLink RX1 9 "SaltRow$Pond" "area" "I", Cond.fieldLink RX1 15 "SaltRow$Pond" "brine" "I", Cond.fieldLink RX1 22 "SaltRow$Pond" "salt" "I", Cond.fieldLink RX1 36 "SaltRow$Pond" "gypsum" "I", Cond.fieldLink RX1 25 "SaltRow$Pond" "bitter" "I", Cond.fieldLink RX1 39 "SaltRow$Pond" "fresh" "I", Cond.fieldLink RX1 42 "SaltRow$Pond" "crustSalt" "I"]
def wsX3_saltInPansWith_r2 : List Cond := [Cond.fieldLink RX1 45 "SaltRow$Pond" "crustDirt" "I", Cond.fieldLink RX1 59 "SaltRow$Pond" "saltFallen" "I", Cond.fieldLink RX1 62 "SaltRow$Pond" "isOpen" "Z", Cond.fieldLink RX1 65 "SaltRow$Pond" "isCovered" "Z", Cond.fieldLink RX1 55 "SaltRow$Pond" "wasHarvested" "Z", Cond.methodLink RX3 302 yX2_setGates, Cond.instanceMethod yX2_setGates, Cond.selects RX2 yX2_setGates yX2_setGates, Cond.code yX2_setGates cX2_setGates 3 none, Cond.fieldLink RX2 66 "SaltRow$Pond" "isOpen" "Z", Cond.methodLink RX3 75 yX2_letDayGoBy, Cond.instanceMethod yX2_letDayGoBy, Cond.selects RX2 yX2_letDayGoBy yX2_letDayGoBy, Cond.code yX2_letDayGoBy cX2_letDayGoBy 6 none, Cond.fieldLink RX2 41 "SaltRow$Pond" "wasHarvested" "Z", Cond.methodLink RX2 35 yX2_letSeaIn, Cond.instanceMethod yX2_letSeaIn, Cond.selects RX2 yX2_letSeaIn yX2_letSeaIn, Cond.code yX2_letSeaIn cX2_letSeaIn 4 none, Cond.fieldLink RX2 69 "SaltRow$Pond" "area" "I", Cond.static yX3_tideAt, Cond.initialized RX3, Cond.code yX3_tideAt cX3_tideAt 1 (some .int), Cond.methodLink RX3 324 Lib.Math.abs.name]
def wsX3_saltInPansWith_r3 : List Cond := [Cond.static Lib.Math.abs.name, Cond.initialized "java/lang/Math", Cond.code Lib.Math.abs.name Lib.Math.abs.code 1 (some .int), Cond.methodLink RX2 62 yX1_level, Cond.instanceMethod yX1_level, Cond.selects RX1 yX1_level yX1_level, Cond.code yX1_level cX1_level 1 (some .int), Cond.static yX3_portion, Cond.code yX3_portion cX3_portion 6 (some .int), Cond.methodLink RX2 72 yX1_takeIn, Cond.instanceMethod yX1_takeIn, Cond.selects RX1 yX1_takeIn yX1_takeIn, Cond.code yX1_takeIn cX1_takeIn 5 none, Cond.methodLink RX2 38 yX2_letBrineFlowOn, Cond.instanceMethod yX2_letBrineFlowOn, Cond.selects RX2 yX2_letBrineFlowOn yX2_letBrineFlowOn, Cond.code yX2_letBrineFlowOn cX2_letBrineFlowOn 5 none, Cond.methodLink RX2 76 Lib.Math.min.name, Cond.static Lib.Math.min.name, Cond.code Lib.Math.min.name Lib.Math.min.code 2 (some .int), Cond.constantLong RX2 82 (2), Cond.methodLink RX2 88 yX1_giveBrine, Cond.instanceMethod yX1_giveBrine, Cond.selects RX1 yX1_giveBrine yX1_giveBrine]
def wsX3_saltInPansWith_r4 : List Cond := [Cond.code yX1_giveBrine cX1_giveBrine 6 none, Cond.methodLink RX1 68 yX1_takeIn, Cond.methodLink RX2 45 yX1_rainFalls, Cond.instanceMethod yX1_rainFalls, Cond.selects RX1 yX1_rainFalls yX1_rainFalls, Cond.code yX1_rainFalls cX1_rainFalls 2 none, Cond.methodLink RX2 49 yX1_dryOut, Cond.instanceMethod yX1_dryOut, Cond.selects RX1 yX1_dryOut yX1_dryOut, Cond.code yX1_dryOut cX1_dryOut 4 none, Cond.methodLink RX1 30 Lib.Math.min.name, Cond.methodLink RX1 52 yX1_strength, Cond.instanceMethod yX1_strength, Cond.selects RX1 yX1_strength yX1_strength, Cond.code yX1_strength cX1_strength 1 (some .int), Cond.constantLong RX1 28 (5), Cond.static yX3_roundedUp, Cond.code yX3_roundedUp cX3_roundedUp 2 (some .int), Cond.methodLink RX2 52 yX1_mixFresh, Cond.instanceMethod yX1_mixFresh, Cond.selects RX1 yX1_mixFresh yX1_mixFresh, Cond.code yX1_mixFresh cX1_mixFresh 3 none, Cond.methodLink RX2 55 yX1_dropMinerals, Cond.instanceMethod yX1_dropMinerals]
def wsX3_saltInPansWith_r5 : List Cond := [Cond.selects RX1 yX1_dropMinerals yX1_dropMinerals, Cond.code yX1_dropMinerals cX1_dropMinerals 3 none, Cond.methodLink RX1 75 yX1_above, Cond.instanceMethod yX1_above, Cond.selects RX1 yX1_above yX1_above, Cond.code yX1_above cX1_above 3 (some .int), Cond.methodLink RX1 78 Lib.MathLoose.max_long.x, Cond.static Lib.MathLoose.max_long.x, Cond.code Lib.MathLoose.max_long.x Lib.MathLoose.max_long.code 4 (some .long), Cond.methodLink RX3 305 yX2_saltInPans, Cond.instanceMethod yX2_saltInPans, Cond.selects RX2 yX2_saltInPans yX2_saltInPans, Cond.code yX2_saltInPans cX2_saltInPans 3 (some .int), Cond.fieldLink RX2 98 "SaltRow$Pond" "salt" "I", Cond.fieldLink RX2 101 "SaltRow$Pond" "crustSalt" "I"]
def wsX3_saltInPansWith : List Cond := .code yX3_saltInPansWith cX3_saltInPansWith 6 (some .int) :: ((wsX3_saltInPansWith_r1 ++ (wsX3_saltInPansWith_r2 ++ (wsX3_saltInPansWith_r3 ++ (wsX3_saltInPansWith_r4 ++ wsX3_saltInPansWith_r5)))) ++ wsX30 ++ wsX20 ++ wsX10)
def wsX3_bestGates_r1 : List Cond := [Cond.classLink RX3 30 "java/lang/IllegalArgumentException", Cond.initialized "java/lang/IllegalArgumentException", Cond.methodLink RX3 67 yX3_needWeather, Cond.instanceMethod yX3_needWeather, Cond.selects RX3 yX3_needWeather yX3_needWeather, Cond.initialized RX3, Cond.code yX3_needWeather cX3_needWeather 3 none, Cond.methodLink RX3 263 yX3_saltInPansWith, Cond.instanceMethod yX3_saltInPansWith, Cond.selects RX3 yX3_saltInPansWith yX3_saltInPansWith, Cond.code yX3_saltInPansWith cX3_saltInPansWith 6 (some .int), Cond.fieldLink RX3 16 "SaltRow" "trial" "LSaltRow$Row;", Cond.fieldLink RX3 10 "SaltRow" "row" "LSaltRow$Row;", Cond.methodLink RX3 254 yX2_copyFrom, Cond.instanceMethod yX2_copyFrom, Cond.selects RX2 yX2_copyFrom yX2_copyFrom, Cond.initialized RX2, Cond.code yX2_copyFrom cX2_copyFrom 3 none, Cond.fieldLink RX2 18 "SaltRow$Row" "day" "I", Cond.fieldLink RX2 22 "SaltRow$Row" "sun" "I", Cond.fieldLink RX2 25 "SaltRow$Row" "wind" "I", Cond.fieldLink RX2 28 "SaltRow$Row" "seaSalt" "I", Cond.fieldLink RX2 11 "SaltRow$Row" "ponds" "[LSaltRow$Pond;", Cond.methodLink RX2 31 yX1_copyFrom]
def wsX3_bestGates_r2 : List Cond := [Cond.instanceMethod yX1_copyFrom, Cond.selects RX1 yX1_copyFrom yX1_copyFrom, Cond.initialized RX1, Cond.code yX1_copyFrom cX1_copyFrom 2 none, Cond.fieldLink RX1 9 "SaltRow$Pond" "area" "I", Cond.fieldLink RX1 15 "SaltRow$Pond" "brine" "I", Cond.fieldLink RX1 22 "SaltRow$Pond" "salt" "I", Cond.fieldLink RX1 36 "SaltRow$Pond" "gypsum" "I", Cond.fieldLink RX1 25 "SaltRow$Pond" "bitter" "I", Cond.fieldLink RX1 39 "SaltRow$Pond" "fresh" "I", Cond.fieldLink RX1 42 "SaltRow$Pond" "crustSalt" "I", Cond.fieldLink RX1 45 "SaltRow$Pond" "crustDirt" "I", Cond.fieldLink RX1 59 "SaltRow$Pond" "saltFallen" "I", Cond.fieldLink RX1 62 "SaltRow$Pond" "isOpen" "Z", Cond.fieldLink RX1 65 "SaltRow$Pond" "isCovered" "Z", Cond.fieldLink RX1 55 "SaltRow$Pond" "wasHarvested" "Z", Cond.methodLink RX3 302 yX2_setGates, Cond.instanceMethod yX2_setGates, Cond.selects RX2 yX2_setGates yX2_setGates, Cond.code yX2_setGates cX2_setGates 3 none, Cond.fieldLink RX2 66 "SaltRow$Pond" "isOpen" "Z", Cond.methodLink RX3 75 yX2_letDayGoBy, Cond.instanceMethod yX2_letDayGoBy, Cond.selects RX2 yX2_letDayGoBy yX2_letDayGoBy]
def wsX3_bestGates_r3 : List Cond := [Cond.code yX2_letDayGoBy cX2_letDayGoBy 6 none, Cond.fieldLink RX2 41 "SaltRow$Pond" "wasHarvested" "Z", Cond.methodLink RX2 35 yX2_letSeaIn, Cond.instanceMethod yX2_letSeaIn, Cond.selects RX2 yX2_letSeaIn yX2_letSeaIn, Cond.code yX2_letSeaIn cX2_letSeaIn 4 none, Cond.fieldLink RX2 69 "SaltRow$Pond" "area" "I", Cond.static yX3_tideAt, Cond.code yX3_tideAt cX3_tideAt 1 (some .int), Cond.methodLink RX3 324 Lib.Math.abs.name, Cond.static Lib.Math.abs.name, Cond.initialized "java/lang/Math", Cond.code Lib.Math.abs.name Lib.Math.abs.code 1 (some .int), Cond.methodLink RX2 62 yX1_level, Cond.instanceMethod yX1_level, Cond.selects RX1 yX1_level yX1_level, Cond.code yX1_level cX1_level 1 (some .int), Cond.static yX3_portion, Cond.code yX3_portion cX3_portion 6 (some .int), Cond.methodLink RX2 72 yX1_takeIn, Cond.instanceMethod yX1_takeIn, Cond.selects RX1 yX1_takeIn yX1_takeIn, Cond.code yX1_takeIn cX1_takeIn 5 none, Cond.methodLink RX2 38 yX2_letBrineFlowOn]
def wsX3_bestGates_r4 : List Cond := [Cond.instanceMethod yX2_letBrineFlowOn, Cond.selects RX2 yX2_letBrineFlowOn yX2_letBrineFlowOn, Cond.code yX2_letBrineFlowOn cX2_letBrineFlowOn 5 none, Cond.methodLink RX2 76 Lib.Math.min.name, Cond.static Lib.Math.min.name, Cond.code Lib.Math.min.name Lib.Math.min.code 2 (some .int), Cond.constantLong RX2 82 (2), Cond.methodLink RX2 88 yX1_giveBrine, Cond.instanceMethod yX1_giveBrine, Cond.selects RX1 yX1_giveBrine yX1_giveBrine, Cond.code yX1_giveBrine cX1_giveBrine 6 none, Cond.methodLink RX1 68 yX1_takeIn, Cond.methodLink RX2 45 yX1_rainFalls, Cond.instanceMethod yX1_rainFalls, Cond.selects RX1 yX1_rainFalls yX1_rainFalls, Cond.code yX1_rainFalls cX1_rainFalls 2 none, Cond.methodLink RX2 49 yX1_dryOut, Cond.instanceMethod yX1_dryOut, Cond.selects RX1 yX1_dryOut yX1_dryOut, Cond.code yX1_dryOut cX1_dryOut 4 none, Cond.methodLink RX1 30 Lib.Math.min.name, Cond.methodLink RX1 52 yX1_strength, Cond.instanceMethod yX1_strength, Cond.selects RX1 yX1_strength yX1_strength]
def wsX3_bestGates_r5 : List Cond := [Cond.code yX1_strength cX1_strength 1 (some .int), Cond.constantLong RX1 28 (5), Cond.static yX3_roundedUp, Cond.code yX3_roundedUp cX3_roundedUp 2 (some .int), Cond.methodLink RX2 52 yX1_mixFresh, Cond.instanceMethod yX1_mixFresh, Cond.selects RX1 yX1_mixFresh yX1_mixFresh, Cond.code yX1_mixFresh cX1_mixFresh 3 none, Cond.methodLink RX2 55 yX1_dropMinerals, Cond.instanceMethod yX1_dropMinerals, Cond.selects RX1 yX1_dropMinerals yX1_dropMinerals, Cond.code yX1_dropMinerals cX1_dropMinerals 3 none, Cond.methodLink RX1 75 yX1_above, Cond.instanceMethod yX1_above, Cond.selects RX1 yX1_above yX1_above, Cond.code yX1_above cX1_above 3 (some .int), Cond.methodLink RX1 78 Lib.MathLoose.max_long.x, Cond.static Lib.MathLoose.max_long.x, Cond.code Lib.MathLoose.max_long.x Lib.MathLoose.max_long.code 4 (some .long), Cond.methodLink RX3 305 yX2_saltInPans, Cond.instanceMethod yX2_saltInPans, Cond.selects RX2 yX2_saltInPans yX2_saltInPans, Cond.code yX2_saltInPans cX2_saltInPans 3 (some .int), Cond.fieldLink RX2 98 "SaltRow$Pond" "salt" "I"]
def wsX3_bestGates_r6 : List Cond := [Cond.fieldLink RX2 101 "SaltRow$Pond" "crustSalt" "I"]
def wsX3_bestGates : List Cond := .code yX3_bestGates cX3_bestGates 8 (some .int) :: ((wsX3_bestGates_r1 ++ (wsX3_bestGates_r2 ++ (wsX3_bestGates_r3 ++ (wsX3_bestGates_r4 ++ (wsX3_bestGates_r5 ++ wsX3_bestGates_r6))))) ++ wsX30 ++ wsX20 ++ wsX10 ++ (vx_atS RX3 34 "java/lang/IllegalArgumentException" ["java/lang/RuntimeException", "java/lang/Exception"]).filter goodWord)
def wsX3_tideOn : List Cond := .code yX3_tideOn cX3_tideOn 5 (some .int) :: ([.classLink RX3 30 "java/lang/IllegalArgumentException", .initialized "java/lang/IllegalArgumentException", .fieldLink RX3 10 "SaltRow" "row" "LSaltRow$Row;", .fieldLink RX3 37 "SaltRow$Row" "day" "I", .methodLink RX3 94 yX3_tideAt, .static yX3_tideAt, .initialized RX3, .code yX3_tideAt cX3_tideAt 1 (some .int), .methodLink RX3 324 Lib.Math.abs.name, .static Lib.Math.abs.name, .initialized "java/lang/Math", .code Lib.Math.abs.name Lib.Math.abs.code 1 (some .int)] ++ wsX30 ++ wsX20 ++ (vx_atS RX3 34 "java/lang/IllegalArgumentException" ["java/lang/RuntimeException", "java/lang/Exception"]).filter goodWord)
def wsX3_digestOfFamily_r1 : List Cond := [Cond.constantLong RX3 273 (31), Cond.methodLink RX3 296 yX3_ofFamily, Cond.instanceMethod yX3_ofFamily, Cond.selects RX3 yX3_ofFamily yX3_ofFamily, Cond.initialized RX3, Cond.code yX3_ofFamily cX3_ofFamily 3 (some .int), Cond.classLink RX3 30 "java/lang/IllegalArgumentException", Cond.initialized "java/lang/IllegalArgumentException", Cond.fieldLink RX3 21 "SaltRow" "families" "[LSaltRow$Family;", Cond.methodLink RX3 134 yX3_needFamily, Cond.instanceMethod yX3_needFamily, Cond.selects RX3 yX3_needFamily yX3_needFamily, Cond.code yX3_needFamily cX3_needFamily 2 none, Cond.classLink RX3 311 "java/lang/IndexOutOfBoundsException", Cond.initialized "java/lang/IndexOutOfBoundsException", Cond.fieldLink RX3 129 "SaltRow" "familyCount" "I", Cond.methodLink RX3 228 yX0_read, Cond.instanceMethod yX0_read, Cond.selects RX0 yX0_read yX0_read, Cond.initialized RX0, Cond.code yX0_read cX0_read 2 (some .int), Cond.fieldLink RX0 15 "SaltRow$Family" "salt" "I", Cond.fieldLink RX0 19 "SaltRow$Family" "dirt" "I", Cond.fieldLink RX0 26 "SaltRow$Family" "coins" "I"]
def wsX3_digestOfFamily_r2 : List Cond := [Cond.fieldLink RX0 29 "SaltRow$Family" "saltGot" "I", Cond.fieldLink RX0 32 "SaltRow$Family" "saltSold" "I", Cond.static yX3_purity, Cond.code yX3_purity cX3_purity 2 (some .int), Cond.constantLong RX3 327 (100), Cond.methodLink RX3 214 yX3_portion, Cond.static yX3_portion, Cond.code yX3_portion cX3_portion 6 (some .int), Cond.methodLink RX3 299 yX3_rightOf, Cond.instanceMethod yX3_rightOf, Cond.selects RX3 yX3_rightOf yX3_rightOf, Cond.code yX3_rightOf cX3_rightOf 3 (some .int), Cond.fieldLink RX3 139 "SaltRow$Family" "rights" "[I", Cond.methodLink RX3 59 yX3_needPan, Cond.instanceMethod yX3_needPan, Cond.selects RX3 yX3_needPan yX3_needPan, Cond.code yX3_needPan cX3_needPan 2 none]
def wsX3_digestOfFamily : List Cond := .code yX3_digestOfFamily cX3_digestOfFamily 7 (some .long) :: ((wsX3_digestOfFamily_r1 ++ wsX3_digestOfFamily_r2) ++ wsX30 ++ wsX00 ++ (vx_atS RX3 34 "java/lang/IllegalArgumentException" ["java/lang/RuntimeException", "java/lang/Exception"]).filter goodWord ++ (vx_atS RX3 315 "java/lang/IndexOutOfBoundsException" ["java/lang/RuntimeException", "java/lang/Exception"]).filter goodWord)
def wsX3_digest_r1 : List Cond := [Cond.constantLong RX3 271 (7804), Cond.constantLong RX3 273 (31), Cond.fieldLink RX3 129 "SaltRow" "familyCount" "I", Cond.methodLink RX3 275 yX3_many, Cond.instanceMethod yX3_many, Cond.selects RX3 yX3_many yX3_many, Cond.initialized RX3, Cond.code yX3_many cX3_many 2 (some .int), Cond.classLink RX3 30 "java/lang/IllegalArgumentException", Cond.initialized "java/lang/IllegalArgumentException", Cond.fieldLink RX3 10 "SaltRow" "row" "LSaltRow$Row;", Cond.fieldLink RX3 37 "SaltRow$Row" "day" "I", Cond.fieldLink RX3 237 "SaltRow$Row" "seaSalt" "I", Cond.fieldLink RX3 100 "SaltRow" "lostSalt" "I", Cond.fieldLink RX3 173 "SaltRow" "crownSalt" "I", Cond.fieldLink RX3 246 "SaltRow" "cloisterSalt" "I", Cond.fieldLink RX3 249 "SaltRow" "cloisterDirt" "I", Cond.fieldLink RX3 86 "SaltRow" "skimmed" "I", Cond.fieldLink RX3 119 "SaltRow" "worksCoins" "I", Cond.methodLink RX3 231 yX2_openGates, Cond.instanceMethod yX2_openGates, Cond.selects RX2 yX2_openGates yX2_openGates, Cond.initialized RX2, Cond.code yX2_openGates cX2_openGates 3 (some .int)]
def wsX3_digest_r2 : List Cond := [Cond.fieldLink RX2 11 "SaltRow$Row" "ponds" "[LSaltRow$Pond;", Cond.fieldLink RX2 66 "SaltRow$Pond" "isOpen" "Z", Cond.methodLink RX3 234 yX2_coveredPans, Cond.instanceMethod yX2_coveredPans, Cond.selects RX2 yX2_coveredPans yX2_coveredPans, Cond.code yX2_coveredPans cX2_coveredPans 3 (some .int), Cond.fieldLink RX2 92 "SaltRow$Pond" "isCovered" "Z", Cond.methodLink RX3 240 yX2_sumOfPonds, Cond.instanceMethod yX2_sumOfPonds, Cond.selects RX2 yX2_sumOfPonds yX2_sumOfPonds, Cond.code yX2_sumOfPonds cX2_sumOfPonds 4 (some .int), Cond.methodLink RX2 104 yX1_read, Cond.instanceMethod yX1_read, Cond.selects RX1 yX1_read yX1_read, Cond.initialized RX1, Cond.code yX1_read cX1_read 2 (some .int), Cond.fieldLink RX1 9 "SaltRow$Pond" "area" "I", Cond.fieldLink RX1 15 "SaltRow$Pond" "brine" "I", Cond.fieldLink RX1 22 "SaltRow$Pond" "salt" "I", Cond.fieldLink RX1 36 "SaltRow$Pond" "gypsum" "I", Cond.fieldLink RX1 25 "SaltRow$Pond" "bitter" "I", Cond.fieldLink RX1 39 "SaltRow$Pond" "fresh" "I", Cond.fieldLink RX1 42 "SaltRow$Pond" "crustSalt" "I", Cond.fieldLink RX1 45 "SaltRow$Pond" "crustDirt" "I"]
def wsX3_digest_r3 : List Cond := [Cond.fieldLink RX1 55 "SaltRow$Pond" "wasHarvested" "Z", Cond.methodLink RX1 48 yX1_level, Cond.instanceMethod yX1_level, Cond.selects RX1 yX1_level yX1_level, Cond.code yX1_level cX1_level 1 (some .int), Cond.static yX3_portion, Cond.code yX3_portion cX3_portion 6 (some .int), Cond.methodLink RX1 52 yX1_strength, Cond.instanceMethod yX1_strength, Cond.selects RX1 yX1_strength yX1_strength, Cond.code yX1_strength cX1_strength 1 (some .int), Cond.constantLong RX1 28 (5), Cond.methodLink RX1 30 Lib.Math.min.name, Cond.static Lib.Math.min.name, Cond.initialized "java/lang/Math", Cond.code Lib.Math.min.name Lib.Math.min.code 2 (some .int), Cond.methodLink RX3 243 yX3_sumOfFamilies, Cond.instanceMethod yX3_sumOfFamilies, Cond.selects RX3 yX3_sumOfFamilies yX3_sumOfFamilies, Cond.code yX3_sumOfFamilies cX3_sumOfFamilies 4 (some .int), Cond.fieldLink RX3 21 "SaltRow" "families" "[LSaltRow$Family;", Cond.methodLink RX3 228 yX0_read, Cond.instanceMethod yX0_read, Cond.selects RX0 yX0_read yX0_read]
def wsX3_digest_r4 : List Cond := [Cond.initialized RX0, Cond.code yX0_read cX0_read 2 (some .int), Cond.fieldLink RX0 15 "SaltRow$Family" "salt" "I", Cond.fieldLink RX0 19 "SaltRow$Family" "dirt" "I", Cond.fieldLink RX0 26 "SaltRow$Family" "coins" "I", Cond.fieldLink RX0 29 "SaltRow$Family" "saltGot" "I", Cond.fieldLink RX0 32 "SaltRow$Family" "saltSold" "I", Cond.static yX3_purity, Cond.code yX3_purity cX3_purity 2 (some .int), Cond.constantLong RX3 327 (100), Cond.methodLink RX3 214 yX3_portion, Cond.methodLink RX3 278 yX3_ofPond, Cond.instanceMethod yX3_ofPond, Cond.selects RX3 yX3_ofPond yX3_ofPond, Cond.code yX3_ofPond cX3_ofPond 3 (some .int), Cond.fieldLink RX3 46 "SaltRow$Row" "ponds" "[LSaltRow$Pond;", Cond.methodLink RX3 26 yX3_needPond, Cond.instanceMethod yX3_needPond, Cond.selects RX3 yX3_needPond yX3_needPond, Cond.code yX3_needPond cX3_needPond 2 none, Cond.classLink RX3 311 "java/lang/IndexOutOfBoundsException", Cond.initialized "java/lang/IndexOutOfBoundsException", Cond.methodLink RX3 223 yX1_read, Cond.methodLink RX3 281 yX3_digestOfFamily]
def wsX3_digest_r5 : List Cond := [Cond.instanceMethod yX3_digestOfFamily, Cond.selects RX3 yX3_digestOfFamily yX3_digestOfFamily, Cond.code yX3_digestOfFamily cX3_digestOfFamily 7 (some .long), Cond.methodLink RX3 296 yX3_ofFamily, Cond.instanceMethod yX3_ofFamily, Cond.selects RX3 yX3_ofFamily yX3_ofFamily, Cond.code yX3_ofFamily cX3_ofFamily 3 (some .int), Cond.methodLink RX3 134 yX3_needFamily, Cond.instanceMethod yX3_needFamily, Cond.selects RX3 yX3_needFamily yX3_needFamily, Cond.code yX3_needFamily cX3_needFamily 2 none, Cond.methodLink RX3 299 yX3_rightOf, Cond.instanceMethod yX3_rightOf, Cond.selects RX3 yX3_rightOf yX3_rightOf, Cond.code yX3_rightOf cX3_rightOf 3 (some .int), Cond.fieldLink RX3 139 "SaltRow$Family" "rights" "[I", Cond.methodLink RX3 59 yX3_needPan, Cond.instanceMethod yX3_needPan, Cond.selects RX3 yX3_needPan yX3_needPan, Cond.code yX3_needPan cX3_needPan 2 none, Cond.methodLink RX3 285 yX3_crustIn, Cond.instanceMethod yX3_crustIn, Cond.selects RX3 yX3_crustIn yX3_crustIn, Cond.code yX3_crustIn cX3_crustIn 5 (some .int)]
def wsX3_digest_r6 : List Cond := [Cond.fieldLink RX3 16 "SaltRow" "trial" "LSaltRow$Row;", Cond.fieldLink RX3 258 "SaltRow$Pond" "saltFallen" "I", Cond.methodLink RX3 67 yX3_needWeather, Cond.instanceMethod yX3_needWeather, Cond.selects RX3 yX3_needWeather yX3_needWeather, Cond.code yX3_needWeather cX3_needWeather 3 none, Cond.methodLink RX3 254 yX2_copyFrom, Cond.instanceMethod yX2_copyFrom, Cond.selects RX2 yX2_copyFrom yX2_copyFrom, Cond.code yX2_copyFrom cX2_copyFrom 3 none, Cond.fieldLink RX2 18 "SaltRow$Row" "day" "I", Cond.fieldLink RX2 22 "SaltRow$Row" "sun" "I", Cond.fieldLink RX2 25 "SaltRow$Row" "wind" "I", Cond.fieldLink RX2 28 "SaltRow$Row" "seaSalt" "I", Cond.methodLink RX2 31 yX1_copyFrom, Cond.instanceMethod yX1_copyFrom, Cond.selects RX1 yX1_copyFrom yX1_copyFrom, Cond.code yX1_copyFrom cX1_copyFrom 2 none, Cond.fieldLink RX1 59 "SaltRow$Pond" "saltFallen" "I", Cond.fieldLink RX1 62 "SaltRow$Pond" "isOpen" "Z", Cond.fieldLink RX1 65 "SaltRow$Pond" "isCovered" "Z", Cond.methodLink RX3 75 yX2_letDayGoBy, Cond.instanceMethod yX2_letDayGoBy, Cond.selects RX2 yX2_letDayGoBy yX2_letDayGoBy]
def wsX3_digest_r7 : List Cond := [Cond.code yX2_letDayGoBy cX2_letDayGoBy 6 none, Cond.fieldLink RX2 41 "SaltRow$Pond" "wasHarvested" "Z", Cond.methodLink RX2 35 yX2_letSeaIn, Cond.instanceMethod yX2_letSeaIn, Cond.selects RX2 yX2_letSeaIn yX2_letSeaIn, Cond.code yX2_letSeaIn cX2_letSeaIn 4 none, Cond.fieldLink RX2 69 "SaltRow$Pond" "area" "I", Cond.static yX3_tideAt, Cond.code yX3_tideAt cX3_tideAt 1 (some .int), Cond.methodLink RX3 324 Lib.Math.abs.name, Cond.static Lib.Math.abs.name, Cond.code Lib.Math.abs.name Lib.Math.abs.code 1 (some .int), Cond.methodLink RX2 62 yX1_level, Cond.methodLink RX2 72 yX1_takeIn, Cond.instanceMethod yX1_takeIn, Cond.selects RX1 yX1_takeIn yX1_takeIn, Cond.code yX1_takeIn cX1_takeIn 5 none, Cond.methodLink RX2 38 yX2_letBrineFlowOn, Cond.instanceMethod yX2_letBrineFlowOn, Cond.selects RX2 yX2_letBrineFlowOn yX2_letBrineFlowOn, Cond.code yX2_letBrineFlowOn cX2_letBrineFlowOn 5 none, Cond.methodLink RX2 76 Lib.Math.min.name, Cond.constantLong RX2 82 (2), Cond.methodLink RX2 88 yX1_giveBrine]
def wsX3_digest_r8 : List Cond := [Cond.instanceMethod yX1_giveBrine, Cond.selects RX1 yX1_giveBrine yX1_giveBrine, Cond.code yX1_giveBrine cX1_giveBrine 6 none, Cond.methodLink RX1 68 yX1_takeIn, Cond.methodLink RX2 45 yX1_rainFalls, Cond.instanceMethod yX1_rainFalls, Cond.selects RX1 yX1_rainFalls yX1_rainFalls, Cond.code yX1_rainFalls cX1_rainFalls 2 none, Cond.methodLink RX2 49 yX1_dryOut, Cond.instanceMethod yX1_dryOut, Cond.selects RX1 yX1_dryOut yX1_dryOut, Cond.code yX1_dryOut cX1_dryOut 4 none, Cond.static yX3_roundedUp, Cond.code yX3_roundedUp cX3_roundedUp 2 (some .int), Cond.methodLink RX2 52 yX1_mixFresh, Cond.instanceMethod yX1_mixFresh, Cond.selects RX1 yX1_mixFresh yX1_mixFresh, Cond.code yX1_mixFresh cX1_mixFresh 3 none, Cond.methodLink RX2 55 yX1_dropMinerals, Cond.instanceMethod yX1_dropMinerals, Cond.selects RX1 yX1_dropMinerals yX1_dropMinerals, Cond.code yX1_dropMinerals cX1_dropMinerals 3 none, Cond.methodLink RX1 75 yX1_above, Cond.instanceMethod yX1_above]
def wsX3_digest_r9 : List Cond := [Cond.selects RX1 yX1_above yX1_above, Cond.code yX1_above cX1_above 3 (some .int), Cond.methodLink RX1 78 Lib.MathLoose.max_long.x, Cond.static Lib.MathLoose.max_long.x, Cond.code Lib.MathLoose.max_long.x Lib.MathLoose.max_long.code 4 (some .long), Cond.methodLink RX3 289 yX3_bestGates, Cond.instanceMethod yX3_bestGates, Cond.selects RX3 yX3_bestGates yX3_bestGates, Cond.code yX3_bestGates cX3_bestGates 8 (some .int), Cond.methodLink RX3 263 yX3_saltInPansWith, Cond.instanceMethod yX3_saltInPansWith, Cond.selects RX3 yX3_saltInPansWith yX3_saltInPansWith, Cond.code yX3_saltInPansWith cX3_saltInPansWith 6 (some .int), Cond.methodLink RX3 302 yX2_setGates, Cond.instanceMethod yX2_setGates, Cond.selects RX2 yX2_setGates yX2_setGates, Cond.code yX2_setGates cX2_setGates 3 none, Cond.methodLink RX3 305 yX2_saltInPans, Cond.instanceMethod yX2_saltInPans, Cond.selects RX2 yX2_saltInPans yX2_saltInPans, Cond.code yX2_saltInPans cX2_saltInPans 3 (some .int), Cond.fieldLink RX2 98 "SaltRow$Pond" "salt" "I", Cond.fieldLink RX2 101 "SaltRow$Pond" "crustSalt" "I", Cond.methodLink RX3 292 yX3_tideOn]
def wsX3_digest_r10 : List Cond := [Cond.instanceMethod yX3_tideOn, Cond.selects RX3 yX3_tideOn yX3_tideOn, Cond.code yX3_tideOn cX3_tideOn 5 (some .int), Cond.methodLink RX3 94 yX3_tideAt]
def wsX3_digest : List Cond := .code yX3_digest cX3_digest 5 (some .long) :: ((wsX3_digest_r1 ++ (wsX3_digest_r2 ++ (wsX3_digest_r3 ++ (wsX3_digest_r4 ++ (wsX3_digest_r5 ++ (wsX3_digest_r6 ++ (wsX3_digest_r7 ++ (wsX3_digest_r8 ++ (wsX3_digest_r9 ++ wsX3_digest_r10))))))))) ++ wsX30 ++ wsX20 ++ wsX10 ++ wsX00 ++ (vx_atS RX3 34 "java/lang/IllegalArgumentException" ["java/lang/RuntimeException", "java/lang/Exception"]).filter goodWord ++ (vx_atS RX3 315 "java/lang/IndexOutOfBoundsException" ["java/lang/RuntimeException", "java/lang/Exception"]).filter goodWord)
theorem dX0_init_0 : decode cX0_init 0 = .ok (.aload_n 0, 1) := by decide +kernel
theorem dX0_init_1 : decode cX0_init 1 = .ok (.invokespecial 3, 3) := by decide +kernel
theorem dX0_init_4 : decode cX0_init 4 = .ok (.aload_n 0, 1) := by decide +kernel
theorem dX0_init_5 : decode cX0_init 5 = .ok (.iconst 3, 1) := by decide +kernel
theorem dX0_init_6 : decode cX0_init 6 = .ok (.newarray .int, 2) := by decide +kernel
theorem dX0_init_8 : decode cX0_init 8 = .ok (.putfield 9, 3) := by decide +kernel
theorem dX0_init_11 : decode cX0_init 11 = .ok (.return_, 1) := by decide +kernel
set_option maxRecDepth 20000 in
theorem ggX0_read_X3_purity : GoodIn wsX0_read wsX3_purity := goodIn_r _ [8, 9, 10, 11, 7, 12] (by decide +kernel) (by decide +kernel)
set_option maxRecDepth 20000 in
theorem gX0_read_X3_purity_n22 : GoodIn wsX0_read (wsX3_purity) := ggX0_read_X3_purity
theorem dX0_read_0 : decode cX0_read 0 = .ok (.iload_n 1, 1) := by decide +kernel
theorem dX0_read_1 : decode cX0_read 1 = .ok (.tableswitch 67 0 4 #[35, 40, 45, 57, 62], 35) := by decide +kernel
theorem dX0_read_36 : decode cX0_read 36 = .ok (.aload_n 0, 1) := by decide +kernel
theorem dX0_read_37 : decode cX0_read 37 = .ok (.getfield 15, 3) := by decide +kernel
theorem dX0_read_40 : decode cX0_read 40 = .ok (.ireturn, 1) := by decide +kernel
theorem dX0_read_41 : decode cX0_read 41 = .ok (.aload_n 0, 1) := by decide +kernel
theorem dX0_read_42 : decode cX0_read 42 = .ok (.getfield 19, 3) := by decide +kernel
theorem dX0_read_45 : decode cX0_read 45 = .ok (.ireturn, 1) := by decide +kernel
theorem dX0_read_46 : decode cX0_read 46 = .ok (.aload_n 0, 1) := by decide +kernel
theorem dX0_read_47 : decode cX0_read 47 = .ok (.getfield 15, 3) := by decide +kernel
theorem dX0_read_50 : decode cX0_read 50 = .ok (.aload_n 0, 1) := by decide +kernel
theorem dX0_read_51 : decode cX0_read 51 = .ok (.getfield 19, 3) := by decide +kernel
theorem dX0_read_54 : decode cX0_read 54 = .ok (.invokestatic 22, 3) := by decide +kernel
theorem dX0_read_57 : decode cX0_read 57 = .ok (.ireturn, 1) := by decide +kernel
theorem dX0_read_58 : decode cX0_read 58 = .ok (.aload_n 0, 1) := by decide +kernel
theorem dX0_read_59 : decode cX0_read 59 = .ok (.getfield 26, 3) := by decide +kernel
theorem dX0_read_62 : decode cX0_read 62 = .ok (.ireturn, 1) := by decide +kernel
theorem dX0_read_63 : decode cX0_read 63 = .ok (.aload_n 0, 1) := by decide +kernel
theorem dX0_read_64 : decode cX0_read 64 = .ok (.getfield 29, 3) := by decide +kernel
theorem dX0_read_67 : decode cX0_read 67 = .ok (.ireturn, 1) := by decide +kernel
theorem dX0_read_68 : decode cX0_read 68 = .ok (.aload_n 0, 1) := by decide +kernel
theorem dX0_read_69 : decode cX0_read 69 = .ok (.getfield 32, 3) := by decide +kernel
theorem dX0_read_72 : decode cX0_read 72 = .ok (.ireturn, 1) := by decide +kernel
theorem dX0_getSalt_0 : decode cX0_getSalt 0 = .ok (.aload_n 0, 1) := by decide +kernel
theorem dX0_getSalt_1 : decode cX0_getSalt 1 = .ok (.dup, 1) := by decide +kernel
theorem dX0_getSalt_2 : decode cX0_getSalt 2 = .ok (.getfield 15, 3) := by decide +kernel
theorem dX0_getSalt_5 : decode cX0_getSalt 5 = .ok (.iload_n 1, 1) := by decide +kernel
theorem dX0_getSalt_6 : decode cX0_getSalt 6 = .ok (.iadd, 1) := by decide +kernel
theorem dX0_getSalt_7 : decode cX0_getSalt 7 = .ok (.putfield 15, 3) := by decide +kernel
theorem dX0_getSalt_10 : decode cX0_getSalt 10 = .ok (.aload_n 0, 1) := by decide +kernel
theorem dX0_getSalt_11 : decode cX0_getSalt 11 = .ok (.dup, 1) := by decide +kernel
theorem dX0_getSalt_12 : decode cX0_getSalt 12 = .ok (.getfield 19, 3) := by decide +kernel
theorem dX0_getSalt_15 : decode cX0_getSalt 15 = .ok (.iload_n 2, 1) := by decide +kernel
theorem dX0_getSalt_16 : decode cX0_getSalt 16 = .ok (.iadd, 1) := by decide +kernel
theorem dX0_getSalt_17 : decode cX0_getSalt 17 = .ok (.putfield 19, 3) := by decide +kernel
theorem dX0_getSalt_20 : decode cX0_getSalt 20 = .ok (.aload_n 0, 1) := by decide +kernel
theorem dX0_getSalt_21 : decode cX0_getSalt 21 = .ok (.dup, 1) := by decide +kernel
theorem dX0_getSalt_22 : decode cX0_getSalt 22 = .ok (.getfield 29, 3) := by decide +kernel
theorem dX0_getSalt_25 : decode cX0_getSalt 25 = .ok (.iload_n 1, 1) := by decide +kernel
theorem dX0_getSalt_26 : decode cX0_getSalt 26 = .ok (.iadd, 1) := by decide +kernel
theorem dX0_getSalt_27 : decode cX0_getSalt 27 = .ok (.putfield 29, 3) := by decide +kernel
theorem dX0_getSalt_30 : decode cX0_getSalt 30 = .ok (.return_, 1) := by decide +kernel
theorem dX1_init_0 : decode cX1_init 0 = .ok (.aload_n 0, 1) := by decide +kernel
theorem dX1_init_1 : decode cX1_init 1 = .ok (.invokespecial 3, 3) := by decide +kernel
theorem dX1_init_4 : decode cX1_init 4 = .ok (.aload_n 0, 1) := by decide +kernel
theorem dX1_init_5 : decode cX1_init 5 = .ok (.iconst 3, 1) := by decide +kernel
theorem dX1_init_6 : decode cX1_init 6 = .ok (.putfield 9, 3) := by decide +kernel
theorem dX1_init_9 : decode cX1_init 9 = .ok (.return_, 1) := by decide +kernel
set_option maxRecDepth 20000 in
theorem ggX1_level_X3_portion : GoodIn wsX1_level wsX3_portion := goodIn_r _ [5] (by decide +kernel) (by decide +kernel)
set_option maxRecDepth 20000 in
theorem gX1_level_X3_portion_n18 : GoodIn wsX1_level (wsX3_portion) := ggX1_level_X3_portion
theorem dX1_level_0 : decode cX1_level 0 = .ok (.aload_n 0, 1) := by decide +kernel
theorem dX1_level_1 : decode cX1_level 1 = .ok (.getfield 15, 3) := by decide +kernel
theorem dX1_level_4 : decode cX1_level 4 = .ok (.i2l, 1) := by decide +kernel
theorem dX1_level_5 : decode cX1_level 5 = .ok (.lconst 1, 1) := by decide +kernel
theorem dX1_level_6 : decode cX1_level 6 = .ok (.aload_n 0, 1) := by decide +kernel
theorem dX1_level_7 : decode cX1_level 7 = .ok (.getfield 9, 3) := by decide +kernel
theorem dX1_level_10 : decode cX1_level 10 = .ok (.i2l, 1) := by decide +kernel
theorem dX1_level_11 : decode cX1_level 11 = .ok (.invokestatic 18, 3) := by decide +kernel
theorem dX1_level_14 : decode cX1_level 14 = .ok (.ireturn, 1) := by decide +kernel
set_option maxRecDepth 20000 in
theorem ggX1_strength_X3_portion : GoodIn wsX1_strength wsX3_portion := goodIn_r _ [11] (by decide +kernel) (by decide +kernel)
set_option maxRecDepth 20000 in
theorem gX1_strength_X3_portion_n18 : GoodIn wsX1_strength (wsX3_portion) := ggX1_strength_X3_portion
theorem dX1_strength_0 : decode cX1_strength 0 = .ok (.bipush 90, 2) := by decide +kernel
theorem dX1_strength_2 : decode cX1_strength 2 = .ok (.aload_n 0, 1) := by decide +kernel
theorem dX1_strength_3 : decode cX1_strength 3 = .ok (.getfield 22, 3) := by decide +kernel
theorem dX1_strength_6 : decode cX1_strength 6 = .ok (.i2l, 1) := by decide +kernel
theorem dX1_strength_7 : decode cX1_strength 7 = .ok (.aload_n 0, 1) := by decide +kernel
theorem dX1_strength_8 : decode cX1_strength 8 = .ok (.getfield 25, 3) := by decide +kernel
theorem dX1_strength_11 : decode cX1_strength 11 = .ok (.i2l, 1) := by decide +kernel
theorem dX1_strength_12 : decode cX1_strength 12 = .ok (.ladd, 1) := by decide +kernel
theorem dX1_strength_13 : decode cX1_strength 13 = .ok (.lconst 1, 1) := by decide +kernel
theorem dX1_strength_14 : decode cX1_strength 14 = .ok (.ldc2_w 28, 3) := by decide +kernel
theorem dX1_strength_17 : decode cX1_strength 17 = .ok (.aload_n 0, 1) := by decide +kernel
theorem dX1_strength_18 : decode cX1_strength 18 = .ok (.getfield 15, 3) := by decide +kernel
theorem dX1_strength_21 : decode cX1_strength 21 = .ok (.i2l, 1) := by decide +kernel
theorem dX1_strength_22 : decode cX1_strength 22 = .ok (.lmul, 1) := by decide +kernel
theorem dX1_strength_23 : decode cX1_strength 23 = .ok (.invokestatic 18, 3) := by decide +kernel
theorem dX1_strength_26 : decode cX1_strength 26 = .ok (.invokestatic 30, 3) := by decide +kernel
theorem dX1_strength_29 : decode cX1_strength 29 = .ok (.ireturn, 1) := by decide +kernel
set_option maxRecDepth 20000 in
theorem ggX1_read_X1_level : GoodIn wsX1_read wsX1_level := goodIn_r _ [14, 2, 1, 15, 16, 17, 27, 28, 29, 30, 31, 32, 33, 34, 35, 36, 37, 38] (by decide +kernel) (by decide +kernel)
set_option maxRecDepth 20000 in
theorem gX1_read_X1_level : GoodIn wsX1_read (wsV RX1 48 RX1 yX1_level wsX1_level) := goodIn_app (goodIn_of _ (by decide +kernel)) ggX1_read_X1_level
set_option maxRecDepth 20000 in
theorem ggX1_read_X1_strength : GoodIn wsX1_read wsX1_strength := goodIn_r _ [21, 3, 5, 22, 2, 23, 24, 25, 26, 15, 16, 17, 27, 28, 29, 30, 31, 32, 33, 34, 35, 36, 37, 38] (by decide +kernel) (by decide +kernel)
set_option maxRecDepth 20000 in
theorem gX1_read_X1_strength : GoodIn wsX1_read (wsV RX1 52 RX1 yX1_strength wsX1_strength) := goodIn_app (goodIn_of _ (by decide +kernel)) ggX1_read_X1_strength
theorem dX1_read_0 : decode cX1_read 0 = .ok (.iload_n 1, 1) := by decide +kernel
theorem dX1_read_1 : decode cX1_read 1 = .ok (.tableswitch 105 0 9 #[55, 60, 65, 70, 75, 80, 85, 90, 95, 100], 55) := by decide +kernel
theorem dX1_read_56 : decode cX1_read 56 = .ok (.aload_n 0, 1) := by decide +kernel
theorem dX1_read_57 : decode cX1_read 57 = .ok (.getfield 9, 3) := by decide +kernel
theorem dX1_read_60 : decode cX1_read 60 = .ok (.ireturn, 1) := by decide +kernel
theorem dX1_read_61 : decode cX1_read 61 = .ok (.aload_n 0, 1) := by decide +kernel
theorem dX1_read_62 : decode cX1_read 62 = .ok (.getfield 15, 3) := by decide +kernel
theorem dX1_read_65 : decode cX1_read 65 = .ok (.ireturn, 1) := by decide +kernel
theorem dX1_read_66 : decode cX1_read 66 = .ok (.aload_n 0, 1) := by decide +kernel
theorem dX1_read_67 : decode cX1_read 67 = .ok (.getfield 22, 3) := by decide +kernel
theorem dX1_read_70 : decode cX1_read 70 = .ok (.ireturn, 1) := by decide +kernel
theorem dX1_read_71 : decode cX1_read 71 = .ok (.aload_n 0, 1) := by decide +kernel
theorem dX1_read_72 : decode cX1_read 72 = .ok (.getfield 36, 3) := by decide +kernel
theorem dX1_read_75 : decode cX1_read 75 = .ok (.ireturn, 1) := by decide +kernel
theorem dX1_read_76 : decode cX1_read 76 = .ok (.aload_n 0, 1) := by decide +kernel
theorem dX1_read_77 : decode cX1_read 77 = .ok (.getfield 25, 3) := by decide +kernel
theorem dX1_read_80 : decode cX1_read 80 = .ok (.ireturn, 1) := by decide +kernel
theorem dX1_read_81 : decode cX1_read 81 = .ok (.aload_n 0, 1) := by decide +kernel
theorem dX1_read_82 : decode cX1_read 82 = .ok (.getfield 39, 3) := by decide +kernel
theorem dX1_read_85 : decode cX1_read 85 = .ok (.ireturn, 1) := by decide +kernel
theorem dX1_read_86 : decode cX1_read 86 = .ok (.aload_n 0, 1) := by decide +kernel
theorem dX1_read_87 : decode cX1_read 87 = .ok (.getfield 42, 3) := by decide +kernel
theorem dX1_read_90 : decode cX1_read 90 = .ok (.ireturn, 1) := by decide +kernel
theorem dX1_read_91 : decode cX1_read 91 = .ok (.aload_n 0, 1) := by decide +kernel
theorem dX1_read_92 : decode cX1_read 92 = .ok (.getfield 45, 3) := by decide +kernel
theorem dX1_read_95 : decode cX1_read 95 = .ok (.ireturn, 1) := by decide +kernel
theorem dX1_read_96 : decode cX1_read 96 = .ok (.aload_n 0, 1) := by decide +kernel
theorem dX1_read_97 : decode cX1_read 97 = .ok (.invokevirtual 48, 3) := by decide +kernel
theorem dX1_read_100 : decode cX1_read 100 = .ok (.ireturn, 1) := by decide +kernel
theorem dX1_read_101 : decode cX1_read 101 = .ok (.aload_n 0, 1) := by decide +kernel
theorem dX1_read_102 : decode cX1_read 102 = .ok (.invokevirtual 52, 3) := by decide +kernel
theorem dX1_read_105 : decode cX1_read 105 = .ok (.ireturn, 1) := by decide +kernel
theorem dX1_read_106 : decode cX1_read 106 = .ok (.aload_n 0, 1) := by decide +kernel
theorem dX1_read_107 : decode cX1_read 107 = .ok (.getfield 55, 3) := by decide +kernel
theorem dX1_read_110 : decode cX1_read 110 = .ok (.ifCond .eq 7, 3) := by decide +kernel
theorem dX1_read_113 : decode cX1_read 113 = .ok (.iconst 1, 1) := by decide +kernel
theorem dX1_read_114 : decode cX1_read 114 = .ok (.goto 4, 3) := by decide +kernel
theorem dX1_read_117 : decode cX1_read 117 = .ok (.iconst 0, 1) := by decide +kernel
theorem dX1_read_118 : decode cX1_read 118 = .ok (.ireturn, 1) := by decide +kernel
theorem dX1_copyFrom_0 : decode cX1_copyFrom 0 = .ok (.aload_n 0, 1) := by decide +kernel
theorem dX1_copyFrom_1 : decode cX1_copyFrom 1 = .ok (.aload_n 1, 1) := by decide +kernel
theorem dX1_copyFrom_2 : decode cX1_copyFrom 2 = .ok (.getfield 9, 3) := by decide +kernel
theorem dX1_copyFrom_5 : decode cX1_copyFrom 5 = .ok (.putfield 9, 3) := by decide +kernel
theorem dX1_copyFrom_8 : decode cX1_copyFrom 8 = .ok (.aload_n 0, 1) := by decide +kernel
theorem dX1_copyFrom_9 : decode cX1_copyFrom 9 = .ok (.aload_n 1, 1) := by decide +kernel
theorem dX1_copyFrom_10 : decode cX1_copyFrom 10 = .ok (.getfield 15, 3) := by decide +kernel
theorem dX1_copyFrom_13 : decode cX1_copyFrom 13 = .ok (.putfield 15, 3) := by decide +kernel
theorem dX1_copyFrom_16 : decode cX1_copyFrom 16 = .ok (.aload_n 0, 1) := by decide +kernel
theorem dX1_copyFrom_17 : decode cX1_copyFrom 17 = .ok (.aload_n 1, 1) := by decide +kernel
theorem dX1_copyFrom_18 : decode cX1_copyFrom 18 = .ok (.getfield 22, 3) := by decide +kernel
theorem dX1_copyFrom_21 : decode cX1_copyFrom 21 = .ok (.putfield 22, 3) := by decide +kernel
theorem dX1_copyFrom_24 : decode cX1_copyFrom 24 = .ok (.aload_n 0, 1) := by decide +kernel
theorem dX1_copyFrom_25 : decode cX1_copyFrom 25 = .ok (.aload_n 1, 1) := by decide +kernel
theorem dX1_copyFrom_26 : decode cX1_copyFrom 26 = .ok (.getfield 36, 3) := by decide +kernel
theorem dX1_copyFrom_29 : decode cX1_copyFrom 29 = .ok (.putfield 36, 3) := by decide +kernel
theorem dX1_copyFrom_32 : decode cX1_copyFrom 32 = .ok (.aload_n 0, 1) := by decide +kernel
theorem dX1_copyFrom_33 : decode cX1_copyFrom 33 = .ok (.aload_n 1, 1) := by decide +kernel
theorem dX1_copyFrom_34 : decode cX1_copyFrom 34 = .ok (.getfield 25, 3) := by decide +kernel
theorem dX1_copyFrom_37 : decode cX1_copyFrom 37 = .ok (.putfield 25, 3) := by decide +kernel
theorem dX1_copyFrom_40 : decode cX1_copyFrom 40 = .ok (.aload_n 0, 1) := by decide +kernel
theorem dX1_copyFrom_41 : decode cX1_copyFrom 41 = .ok (.aload_n 1, 1) := by decide +kernel
theorem dX1_copyFrom_42 : decode cX1_copyFrom 42 = .ok (.getfield 39, 3) := by decide +kernel
theorem dX1_copyFrom_45 : decode cX1_copyFrom 45 = .ok (.putfield 39, 3) := by decide +kernel
theorem dX1_copyFrom_48 : decode cX1_copyFrom 48 = .ok (.aload_n 0, 1) := by decide +kernel
theorem dX1_copyFrom_49 : decode cX1_copyFrom 49 = .ok (.aload_n 1, 1) := by decide +kernel
theorem dX1_copyFrom_50 : decode cX1_copyFrom 50 = .ok (.getfield 42, 3) := by decide +kernel
theorem dX1_copyFrom_53 : decode cX1_copyFrom 53 = .ok (.putfield 42, 3) := by decide +kernel
theorem dX1_copyFrom_56 : decode cX1_copyFrom 56 = .ok (.aload_n 0, 1) := by decide +kernel
theorem dX1_copyFrom_57 : decode cX1_copyFrom 57 = .ok (.aload_n 1, 1) := by decide +kernel
theorem dX1_copyFrom_58 : decode cX1_copyFrom 58 = .ok (.getfield 45, 3) := by decide +kernel
theorem dX1_copyFrom_61 : decode cX1_copyFrom 61 = .ok (.putfield 45, 3) := by decide +kernel
theorem dX1_copyFrom_64 : decode cX1_copyFrom 64 = .ok (.aload_n 0, 1) := by decide +kernel
theorem dX1_copyFrom_65 : decode cX1_copyFrom 65 = .ok (.aload_n 1, 1) := by decide +kernel
theorem dX1_copyFrom_66 : decode cX1_copyFrom 66 = .ok (.getfield 59, 3) := by decide +kernel
theorem dX1_copyFrom_69 : decode cX1_copyFrom 69 = .ok (.putfield 59, 3) := by decide +kernel
theorem dX1_copyFrom_72 : decode cX1_copyFrom 72 = .ok (.aload_n 0, 1) := by decide +kernel
theorem dX1_copyFrom_73 : decode cX1_copyFrom 73 = .ok (.aload_n 1, 1) := by decide +kernel
theorem dX1_copyFrom_74 : decode cX1_copyFrom 74 = .ok (.getfield 62, 3) := by decide +kernel
theorem dX1_copyFrom_77 : decode cX1_copyFrom 77 = .ok (.putfield 62, 3) := by decide +kernel
theorem dX1_copyFrom_80 : decode cX1_copyFrom 80 = .ok (.aload_n 0, 1) := by decide +kernel
theorem dX1_copyFrom_81 : decode cX1_copyFrom 81 = .ok (.aload_n 1, 1) := by decide +kernel
theorem dX1_copyFrom_82 : decode cX1_copyFrom 82 = .ok (.getfield 65, 3) := by decide +kernel
theorem dX1_copyFrom_85 : decode cX1_copyFrom 85 = .ok (.putfield 65, 3) := by decide +kernel
theorem dX1_copyFrom_88 : decode cX1_copyFrom 88 = .ok (.aload_n 0, 1) := by decide +kernel
theorem dX1_copyFrom_89 : decode cX1_copyFrom 89 = .ok (.aload_n 1, 1) := by decide +kernel
theorem dX1_copyFrom_90 : decode cX1_copyFrom 90 = .ok (.getfield 55, 3) := by decide +kernel
theorem dX1_copyFrom_93 : decode cX1_copyFrom 93 = .ok (.putfield 55, 3) := by decide +kernel
theorem dX1_copyFrom_96 : decode cX1_copyFrom 96 = .ok (.return_, 1) := by decide +kernel
set_option maxRecDepth 20000 in
theorem ggX1_giveBrine_X3_portion : GoodIn wsX1_giveBrine wsX3_portion := goodIn_r _ [7] (by decide +kernel) (by decide +kernel)
set_option maxRecDepth 20000 in
theorem gX1_giveBrine_X3_portion_n18 : GoodIn wsX1_giveBrine (wsX3_portion) := ggX1_giveBrine_X3_portion
set_option maxRecDepth 20000 in
theorem ggX1_giveBrine_X1_takeIn : GoodIn wsX1_giveBrine wsX1_takeIn := goodIn_r _ [12, 2, 1, 3, 4, 13, 14, 15, 16, 17, 18, 19, 20, 21, 22, 23, 24] (by decide +kernel) (by decide +kernel)
set_option maxRecDepth 20000 in
theorem gX1_giveBrine_X1_takeIn : GoodIn wsX1_giveBrine (wsV RX1 68 RX1 yX1_takeIn wsX1_takeIn) := goodIn_app (goodIn_of _ (by decide +kernel)) ggX1_giveBrine_X1_takeIn
theorem dX1_giveBrine_0 : decode cX1_giveBrine 0 = .ok (.aload_n 0, 1) := by decide +kernel
theorem dX1_giveBrine_1 : decode cX1_giveBrine 1 = .ok (.getfield 22, 3) := by decide +kernel
theorem dX1_giveBrine_4 : decode cX1_giveBrine 4 = .ok (.i2l, 1) := by decide +kernel
theorem dX1_giveBrine_5 : decode cX1_giveBrine 5 = .ok (.iload_n 2, 1) := by decide +kernel
theorem dX1_giveBrine_6 : decode cX1_giveBrine 6 = .ok (.i2l, 1) := by decide +kernel
theorem dX1_giveBrine_7 : decode cX1_giveBrine 7 = .ok (.aload_n 0, 1) := by decide +kernel
theorem dX1_giveBrine_8 : decode cX1_giveBrine 8 = .ok (.getfield 15, 3) := by decide +kernel
theorem dX1_giveBrine_11 : decode cX1_giveBrine 11 = .ok (.i2l, 1) := by decide +kernel
theorem dX1_giveBrine_12 : decode cX1_giveBrine 12 = .ok (.invokestatic 18, 3) := by decide +kernel
theorem dX1_giveBrine_15 : decode cX1_giveBrine 15 = .ok (.istore_n 3, 1) := by decide +kernel
theorem dX1_giveBrine_16 : decode cX1_giveBrine 16 = .ok (.aload_n 0, 1) := by decide +kernel
theorem dX1_giveBrine_17 : decode cX1_giveBrine 17 = .ok (.getfield 36, 3) := by decide +kernel
theorem dX1_giveBrine_20 : decode cX1_giveBrine 20 = .ok (.i2l, 1) := by decide +kernel
theorem dX1_giveBrine_21 : decode cX1_giveBrine 21 = .ok (.iload_n 2, 1) := by decide +kernel
theorem dX1_giveBrine_22 : decode cX1_giveBrine 22 = .ok (.i2l, 1) := by decide +kernel
theorem dX1_giveBrine_23 : decode cX1_giveBrine 23 = .ok (.aload_n 0, 1) := by decide +kernel
theorem dX1_giveBrine_24 : decode cX1_giveBrine 24 = .ok (.getfield 15, 3) := by decide +kernel
theorem dX1_giveBrine_27 : decode cX1_giveBrine 27 = .ok (.i2l, 1) := by decide +kernel
theorem dX1_giveBrine_28 : decode cX1_giveBrine 28 = .ok (.invokestatic 18, 3) := by decide +kernel
theorem dX1_giveBrine_31 : decode cX1_giveBrine 31 = .ok (.istore 4, 2) := by decide +kernel
theorem dX1_giveBrine_33 : decode cX1_giveBrine 33 = .ok (.aload_n 0, 1) := by decide +kernel
theorem dX1_giveBrine_34 : decode cX1_giveBrine 34 = .ok (.getfield 25, 3) := by decide +kernel
theorem dX1_giveBrine_37 : decode cX1_giveBrine 37 = .ok (.i2l, 1) := by decide +kernel
theorem dX1_giveBrine_38 : decode cX1_giveBrine 38 = .ok (.iload_n 2, 1) := by decide +kernel
theorem dX1_giveBrine_39 : decode cX1_giveBrine 39 = .ok (.i2l, 1) := by decide +kernel
theorem dX1_giveBrine_40 : decode cX1_giveBrine 40 = .ok (.aload_n 0, 1) := by decide +kernel
theorem dX1_giveBrine_41 : decode cX1_giveBrine 41 = .ok (.getfield 15, 3) := by decide +kernel
theorem dX1_giveBrine_44 : decode cX1_giveBrine 44 = .ok (.i2l, 1) := by decide +kernel
theorem dX1_giveBrine_45 : decode cX1_giveBrine 45 = .ok (.invokestatic 18, 3) := by decide +kernel
theorem dX1_giveBrine_48 : decode cX1_giveBrine 48 = .ok (.istore 5, 2) := by decide +kernel
theorem dX1_giveBrine_50 : decode cX1_giveBrine 50 = .ok (.aload_n 0, 1) := by decide +kernel
theorem dX1_giveBrine_51 : decode cX1_giveBrine 51 = .ok (.iload_n 2, 1) := by decide +kernel
theorem dX1_giveBrine_52 : decode cX1_giveBrine 52 = .ok (.ineg, 1) := by decide +kernel
theorem dX1_giveBrine_53 : decode cX1_giveBrine 53 = .ok (.iload_n 3, 1) := by decide +kernel
theorem dX1_giveBrine_54 : decode cX1_giveBrine 54 = .ok (.ineg, 1) := by decide +kernel
theorem dX1_giveBrine_55 : decode cX1_giveBrine 55 = .ok (.iload 4, 2) := by decide +kernel
theorem dX1_giveBrine_57 : decode cX1_giveBrine 57 = .ok (.ineg, 1) := by decide +kernel
theorem dX1_giveBrine_58 : decode cX1_giveBrine 58 = .ok (.iload 5, 2) := by decide +kernel
theorem dX1_giveBrine_60 : decode cX1_giveBrine 60 = .ok (.ineg, 1) := by decide +kernel
theorem dX1_giveBrine_61 : decode cX1_giveBrine 61 = .ok (.invokevirtual 68, 3) := by decide +kernel
theorem dX1_giveBrine_64 : decode cX1_giveBrine 64 = .ok (.aload_n 1, 1) := by decide +kernel
theorem dX1_giveBrine_65 : decode cX1_giveBrine 65 = .ok (.iload_n 2, 1) := by decide +kernel
theorem dX1_giveBrine_66 : decode cX1_giveBrine 66 = .ok (.iload_n 3, 1) := by decide +kernel
theorem dX1_giveBrine_67 : decode cX1_giveBrine 67 = .ok (.iload 4, 2) := by decide +kernel
theorem dX1_giveBrine_69 : decode cX1_giveBrine 69 = .ok (.iload 5, 2) := by decide +kernel
theorem dX1_giveBrine_71 : decode cX1_giveBrine 71 = .ok (.invokevirtual 68, 3) := by decide +kernel
theorem dX1_giveBrine_74 : decode cX1_giveBrine 74 = .ok (.return_, 1) := by decide +kernel
theorem dX1_takeIn_0 : decode cX1_takeIn 0 = .ok (.aload_n 0, 1) := by decide +kernel
theorem dX1_takeIn_1 : decode cX1_takeIn 1 = .ok (.dup, 1) := by decide +kernel
theorem dX1_takeIn_2 : decode cX1_takeIn 2 = .ok (.getfield 15, 3) := by decide +kernel
theorem dX1_takeIn_5 : decode cX1_takeIn 5 = .ok (.iload_n 1, 1) := by decide +kernel
theorem dX1_takeIn_6 : decode cX1_takeIn 6 = .ok (.iadd, 1) := by decide +kernel
theorem dX1_takeIn_7 : decode cX1_takeIn 7 = .ok (.putfield 15, 3) := by decide +kernel
theorem dX1_takeIn_10 : decode cX1_takeIn 10 = .ok (.aload_n 0, 1) := by decide +kernel
theorem dX1_takeIn_11 : decode cX1_takeIn 11 = .ok (.dup, 1) := by decide +kernel
theorem dX1_takeIn_12 : decode cX1_takeIn 12 = .ok (.getfield 22, 3) := by decide +kernel
theorem dX1_takeIn_15 : decode cX1_takeIn 15 = .ok (.iload_n 2, 1) := by decide +kernel
theorem dX1_takeIn_16 : decode cX1_takeIn 16 = .ok (.iadd, 1) := by decide +kernel
theorem dX1_takeIn_17 : decode cX1_takeIn 17 = .ok (.putfield 22, 3) := by decide +kernel
theorem dX1_takeIn_20 : decode cX1_takeIn 20 = .ok (.aload_n 0, 1) := by decide +kernel
theorem dX1_takeIn_21 : decode cX1_takeIn 21 = .ok (.dup, 1) := by decide +kernel
theorem dX1_takeIn_22 : decode cX1_takeIn 22 = .ok (.getfield 36, 3) := by decide +kernel
theorem dX1_takeIn_25 : decode cX1_takeIn 25 = .ok (.iload_n 3, 1) := by decide +kernel
theorem dX1_takeIn_26 : decode cX1_takeIn 26 = .ok (.iadd, 1) := by decide +kernel
theorem dX1_takeIn_27 : decode cX1_takeIn 27 = .ok (.putfield 36, 3) := by decide +kernel
theorem dX1_takeIn_30 : decode cX1_takeIn 30 = .ok (.aload_n 0, 1) := by decide +kernel
theorem dX1_takeIn_31 : decode cX1_takeIn 31 = .ok (.dup, 1) := by decide +kernel
theorem dX1_takeIn_32 : decode cX1_takeIn 32 = .ok (.getfield 25, 3) := by decide +kernel
theorem dX1_takeIn_35 : decode cX1_takeIn 35 = .ok (.iload 4, 2) := by decide +kernel
theorem dX1_takeIn_37 : decode cX1_takeIn 37 = .ok (.iadd, 1) := by decide +kernel
theorem dX1_takeIn_38 : decode cX1_takeIn 38 = .ok (.putfield 25, 3) := by decide +kernel
theorem dX1_takeIn_41 : decode cX1_takeIn 41 = .ok (.return_, 1) := by decide +kernel
theorem dX1_rainFalls_0 : decode cX1_rainFalls 0 = .ok (.aload_n 0, 1) := by decide +kernel
theorem dX1_rainFalls_1 : decode cX1_rainFalls 1 = .ok (.getfield 65, 3) := by decide +kernel
theorem dX1_rainFalls_4 : decode cX1_rainFalls 4 = .ok (.ifCond .ne 21, 3) := by decide +kernel
theorem dX1_rainFalls_7 : decode cX1_rainFalls 7 = .ok (.aload_n 0, 1) := by decide +kernel
theorem dX1_rainFalls_8 : decode cX1_rainFalls 8 = .ok (.dup, 1) := by decide +kernel
theorem dX1_rainFalls_9 : decode cX1_rainFalls 9 = .ok (.getfield 39, 3) := by decide +kernel
theorem dX1_rainFalls_12 : decode cX1_rainFalls 12 = .ok (.iload_n 1, 1) := by decide +kernel
theorem dX1_rainFalls_13 : decode cX1_rainFalls 13 = .ok (.aload_n 0, 1) := by decide +kernel
theorem dX1_rainFalls_14 : decode cX1_rainFalls 14 = .ok (.getfield 9, 3) := by decide +kernel
theorem dX1_rainFalls_17 : decode cX1_rainFalls 17 = .ok (.imul, 1) := by decide +kernel
theorem dX1_rainFalls_18 : decode cX1_rainFalls 18 = .ok (.bipush 10, 2) := by decide +kernel
theorem dX1_rainFalls_20 : decode cX1_rainFalls 20 = .ok (.idiv, 1) := by decide +kernel
theorem dX1_rainFalls_21 : decode cX1_rainFalls 21 = .ok (.iadd, 1) := by decide +kernel
theorem dX1_rainFalls_22 : decode cX1_rainFalls 22 = .ok (.putfield 39, 3) := by decide +kernel
theorem dX1_rainFalls_25 : decode cX1_rainFalls 25 = .ok (.return_, 1) := by decide +kernel
set_option maxRecDepth 20000 in
theorem ggX1_dryOut_X1_strength : GoodIn wsX1_dryOut wsX1_strength := goodIn_r _ [12, 13, 14, 15, 7, 3, 4, 5, 6, 16, 17, 18, 21, 22, 23, 24, 25, 26, 27, 28, 29, 30, 31, 32] (by decide +kernel) (by decide +kernel)
set_option maxRecDepth 20000 in
theorem gX1_dryOut_X1_strength : GoodIn wsX1_dryOut (wsV RX1 52 RX1 yX1_strength wsX1_strength) := goodIn_app (goodIn_of _ (by decide +kernel)) ggX1_dryOut_X1_strength
set_option maxRecDepth 20000 in
theorem ggX1_dryOut_X3_roundedUp : GoodIn wsX1_dryOut wsX3_roundedUp := goodIn_r _ [20] (by decide +kernel) (by decide +kernel)
set_option maxRecDepth 20000 in
theorem gX1_dryOut_X3_roundedUp_n72 : GoodIn wsX1_dryOut (wsX3_roundedUp) := ggX1_dryOut_X3_roundedUp
theorem dX1_dryOut_0 : decode cX1_dryOut 0 = .ok (.aload_n 0, 1) := by decide +kernel
theorem dX1_dryOut_1 : decode cX1_dryOut 1 = .ok (.getfield 9, 3) := by decide +kernel
theorem dX1_dryOut_4 : decode cX1_dryOut 4 = .ok (.iload_n 1, 1) := by decide +kernel
theorem dX1_dryOut_5 : decode cX1_dryOut 5 = .ok (.imul, 1) := by decide +kernel
theorem dX1_dryOut_6 : decode cX1_dryOut 6 = .ok (.istore_n 2, 1) := by decide +kernel
theorem dX1_dryOut_7 : decode cX1_dryOut 7 = .ok (.aload_n 0, 1) := by decide +kernel
theorem dX1_dryOut_8 : decode cX1_dryOut 8 = .ok (.getfield 39, 3) := by decide +kernel
theorem dX1_dryOut_11 : decode cX1_dryOut 11 = .ok (.iload_n 2, 1) := by decide +kernel
theorem dX1_dryOut_12 : decode cX1_dryOut 12 = .ok (.bipush 10, 2) := by decide +kernel
theorem dX1_dryOut_14 : decode cX1_dryOut 14 = .ok (.idiv, 1) := by decide +kernel
theorem dX1_dryOut_15 : decode cX1_dryOut 15 = .ok (.invokestatic 30, 3) := by decide +kernel
theorem dX1_dryOut_18 : decode cX1_dryOut 18 = .ok (.istore_n 3, 1) := by decide +kernel
theorem dX1_dryOut_19 : decode cX1_dryOut 19 = .ok (.aload_n 0, 1) := by decide +kernel
theorem dX1_dryOut_20 : decode cX1_dryOut 20 = .ok (.dup, 1) := by decide +kernel
theorem dX1_dryOut_21 : decode cX1_dryOut 21 = .ok (.getfield 39, 3) := by decide +kernel
theorem dX1_dryOut_24 : decode cX1_dryOut 24 = .ok (.iload_n 3, 1) := by decide +kernel
theorem dX1_dryOut_25 : decode cX1_dryOut 25 = .ok (.isub, 1) := by decide +kernel
theorem dX1_dryOut_26 : decode cX1_dryOut 26 = .ok (.putfield 39, 3) := by decide +kernel
theorem dX1_dryOut_29 : decode cX1_dryOut 29 = .ok (.iload_n 2, 1) := by decide +kernel
theorem dX1_dryOut_30 : decode cX1_dryOut 30 = .ok (.bipush 10, 2) := by decide +kernel
theorem dX1_dryOut_32 : decode cX1_dryOut 32 = .ok (.iload_n 3, 1) := by decide +kernel
theorem dX1_dryOut_33 : decode cX1_dryOut 33 = .ok (.imul, 1) := by decide +kernel
theorem dX1_dryOut_34 : decode cX1_dryOut 34 = .ok (.isub, 1) := by decide +kernel
theorem dX1_dryOut_35 : decode cX1_dryOut 35 = .ok (.istore_n 2, 1) := by decide +kernel
theorem dX1_dryOut_36 : decode cX1_dryOut 36 = .ok (.aload_n 0, 1) := by decide +kernel
theorem dX1_dryOut_37 : decode cX1_dryOut 37 = .ok (.dup, 1) := by decide +kernel
theorem dX1_dryOut_38 : decode cX1_dryOut 38 = .ok (.getfield 15, 3) := by decide +kernel
theorem dX1_dryOut_41 : decode cX1_dryOut 41 = .ok (.aload_n 0, 1) := by decide +kernel
theorem dX1_dryOut_42 : decode cX1_dryOut 42 = .ok (.getfield 15, 3) := by decide +kernel
theorem dX1_dryOut_45 : decode cX1_dryOut 45 = .ok (.iconst 2, 1) := by decide +kernel
theorem dX1_dryOut_46 : decode cX1_dryOut 46 = .ok (.idiv, 1) := by decide +kernel
theorem dX1_dryOut_47 : decode cX1_dryOut 47 = .ok (.iload_n 2, 1) := by decide +kernel
theorem dX1_dryOut_48 : decode cX1_dryOut 48 = .ok (.bipush 100, 2) := by decide +kernel
theorem dX1_dryOut_50 : decode cX1_dryOut 50 = .ok (.aload_n 0, 1) := by decide +kernel
theorem dX1_dryOut_51 : decode cX1_dryOut 51 = .ok (.invokevirtual 52, 3) := by decide +kernel
theorem dX1_dryOut_54 : decode cX1_dryOut 54 = .ok (.isub, 1) := by decide +kernel
theorem dX1_dryOut_55 : decode cX1_dryOut 55 = .ok (.imul, 1) := by decide +kernel
theorem dX1_dryOut_56 : decode cX1_dryOut 56 = .ok (.sipush 1000, 3) := by decide +kernel
theorem dX1_dryOut_59 : decode cX1_dryOut 59 = .ok (.invokestatic 72, 3) := by decide +kernel
theorem dX1_dryOut_62 : decode cX1_dryOut 62 = .ok (.invokestatic 30, 3) := by decide +kernel
theorem dX1_dryOut_65 : decode cX1_dryOut 65 = .ok (.isub, 1) := by decide +kernel
theorem dX1_dryOut_66 : decode cX1_dryOut 66 = .ok (.putfield 15, 3) := by decide +kernel
theorem dX1_dryOut_69 : decode cX1_dryOut 69 = .ok (.return_, 1) := by decide +kernel
set_option maxRecDepth 20000 in
theorem ggX1_mixFresh_X3_roundedUp : GoodIn wsX1_mixFresh wsX3_roundedUp := goodIn_r _ [11] (by decide +kernel) (by decide +kernel)
set_option maxRecDepth 20000 in
theorem gX1_mixFresh_X3_roundedUp_n72 : GoodIn wsX1_mixFresh (wsX3_roundedUp) := ggX1_mixFresh_X3_roundedUp
theorem dX1_mixFresh_0 : decode cX1_mixFresh 0 = .ok (.aload_n 0, 1) := by decide +kernel
theorem dX1_mixFresh_1 : decode cX1_mixFresh 1 = .ok (.getfield 39, 3) := by decide +kernel
theorem dX1_mixFresh_4 : decode cX1_mixFresh 4 = .ok (.iconst 2, 1) := by decide +kernel
theorem dX1_mixFresh_5 : decode cX1_mixFresh 5 = .ok (.invokestatic 72, 3) := by decide +kernel
theorem dX1_mixFresh_8 : decode cX1_mixFresh 8 = .ok (.istore_n 1, 1) := by decide +kernel
theorem dX1_mixFresh_9 : decode cX1_mixFresh 9 = .ok (.aload_n 0, 1) := by decide +kernel
theorem dX1_mixFresh_10 : decode cX1_mixFresh 10 = .ok (.getfield 42, 3) := by decide +kernel
theorem dX1_mixFresh_13 : decode cX1_mixFresh 13 = .ok (.iconst 4, 1) := by decide +kernel
theorem dX1_mixFresh_14 : decode cX1_mixFresh 14 = .ok (.iload_n 1, 1) := by decide +kernel
theorem dX1_mixFresh_15 : decode cX1_mixFresh 15 = .ok (.imul, 1) := by decide +kernel
theorem dX1_mixFresh_16 : decode cX1_mixFresh 16 = .ok (.invokestatic 30, 3) := by decide +kernel
theorem dX1_mixFresh_19 : decode cX1_mixFresh 19 = .ok (.istore_n 2, 1) := by decide +kernel
theorem dX1_mixFresh_20 : decode cX1_mixFresh 20 = .ok (.aload_n 0, 1) := by decide +kernel
theorem dX1_mixFresh_21 : decode cX1_mixFresh 21 = .ok (.dup, 1) := by decide +kernel
theorem dX1_mixFresh_22 : decode cX1_mixFresh 22 = .ok (.getfield 39, 3) := by decide +kernel
theorem dX1_mixFresh_25 : decode cX1_mixFresh 25 = .ok (.iload_n 1, 1) := by decide +kernel
theorem dX1_mixFresh_26 : decode cX1_mixFresh 26 = .ok (.isub, 1) := by decide +kernel
theorem dX1_mixFresh_27 : decode cX1_mixFresh 27 = .ok (.putfield 39, 3) := by decide +kernel
theorem dX1_mixFresh_30 : decode cX1_mixFresh 30 = .ok (.aload_n 0, 1) := by decide +kernel
theorem dX1_mixFresh_31 : decode cX1_mixFresh 31 = .ok (.dup, 1) := by decide +kernel
theorem dX1_mixFresh_32 : decode cX1_mixFresh 32 = .ok (.getfield 15, 3) := by decide +kernel
theorem dX1_mixFresh_35 : decode cX1_mixFresh 35 = .ok (.iload_n 1, 1) := by decide +kernel
theorem dX1_mixFresh_36 : decode cX1_mixFresh 36 = .ok (.iadd, 1) := by decide +kernel
theorem dX1_mixFresh_37 : decode cX1_mixFresh 37 = .ok (.putfield 15, 3) := by decide +kernel
theorem dX1_mixFresh_40 : decode cX1_mixFresh 40 = .ok (.aload_n 0, 1) := by decide +kernel
theorem dX1_mixFresh_41 : decode cX1_mixFresh 41 = .ok (.dup, 1) := by decide +kernel
theorem dX1_mixFresh_42 : decode cX1_mixFresh 42 = .ok (.getfield 42, 3) := by decide +kernel
theorem dX1_mixFresh_45 : decode cX1_mixFresh 45 = .ok (.iload_n 2, 1) := by decide +kernel
theorem dX1_mixFresh_46 : decode cX1_mixFresh 46 = .ok (.isub, 1) := by decide +kernel
theorem dX1_mixFresh_47 : decode cX1_mixFresh 47 = .ok (.putfield 42, 3) := by decide +kernel
theorem dX1_mixFresh_50 : decode cX1_mixFresh 50 = .ok (.aload_n 0, 1) := by decide +kernel
theorem dX1_mixFresh_51 : decode cX1_mixFresh 51 = .ok (.dup, 1) := by decide +kernel
theorem dX1_mixFresh_52 : decode cX1_mixFresh 52 = .ok (.getfield 22, 3) := by decide +kernel
theorem dX1_mixFresh_55 : decode cX1_mixFresh 55 = .ok (.iload_n 2, 1) := by decide +kernel
theorem dX1_mixFresh_56 : decode cX1_mixFresh 56 = .ok (.iadd, 1) := by decide +kernel
theorem dX1_mixFresh_57 : decode cX1_mixFresh 57 = .ok (.putfield 22, 3) := by decide +kernel
theorem dX1_mixFresh_60 : decode cX1_mixFresh 60 = .ok (.return_, 1) := by decide +kernel
set_option maxRecDepth 20000 in
theorem ggX1_dropMinerals_X1_above : GoodIn wsX1_dropMinerals wsX1_above := goodIn_r _ [11, 12, 13, 14, 15, 16, 17, 18, 19, 20, 21, 22, 23, 24, 25, 26, 27, 28] (by decide +kernel) (by decide +kernel)
set_option maxRecDepth 20000 in
theorem gX1_dropMinerals_X1_above : GoodIn wsX1_dropMinerals (wsV RX1 75 RX1 yX1_above wsX1_above) := goodIn_app (goodIn_of _ (by decide +kernel)) ggX1_dropMinerals_X1_above
theorem dX1_dropMinerals_0 : decode cX1_dropMinerals 0 = .ok (.aload_n 0, 1) := by decide +kernel
theorem dX1_dropMinerals_1 : decode cX1_dropMinerals 1 = .ok (.aload_n 0, 1) := by decide +kernel
theorem dX1_dropMinerals_2 : decode cX1_dropMinerals 2 = .ok (.getfield 36, 3) := by decide +kernel
theorem dX1_dropMinerals_5 : decode cX1_dropMinerals 5 = .ok (.bipush 8, 2) := by decide +kernel
theorem dX1_dropMinerals_7 : decode cX1_dropMinerals 7 = .ok (.invokevirtual 75, 3) := by decide +kernel
theorem dX1_dropMinerals_10 : decode cX1_dropMinerals 10 = .ok (.istore_n 1, 1) := by decide +kernel
theorem dX1_dropMinerals_11 : decode cX1_dropMinerals 11 = .ok (.aload_n 0, 1) := by decide +kernel
theorem dX1_dropMinerals_12 : decode cX1_dropMinerals 12 = .ok (.aload_n 0, 1) := by decide +kernel
theorem dX1_dropMinerals_13 : decode cX1_dropMinerals 13 = .ok (.getfield 25, 3) := by decide +kernel
theorem dX1_dropMinerals_16 : decode cX1_dropMinerals 16 = .ok (.sipush 200, 3) := by decide +kernel
theorem dX1_dropMinerals_19 : decode cX1_dropMinerals 19 = .ok (.invokevirtual 75, 3) := by decide +kernel
theorem dX1_dropMinerals_22 : decode cX1_dropMinerals 22 = .ok (.istore_n 2, 1) := by decide +kernel
theorem dX1_dropMinerals_23 : decode cX1_dropMinerals 23 = .ok (.aload_n 0, 1) := by decide +kernel
theorem dX1_dropMinerals_24 : decode cX1_dropMinerals 24 = .ok (.aload_n 0, 1) := by decide +kernel
theorem dX1_dropMinerals_25 : decode cX1_dropMinerals 25 = .ok (.aload_n 0, 1) := by decide +kernel
theorem dX1_dropMinerals_26 : decode cX1_dropMinerals 26 = .ok (.getfield 22, 3) := by decide +kernel
theorem dX1_dropMinerals_29 : decode cX1_dropMinerals 29 = .ok (.sipush 300, 3) := by decide +kernel
theorem dX1_dropMinerals_32 : decode cX1_dropMinerals 32 = .ok (.invokevirtual 75, 3) := by decide +kernel
theorem dX1_dropMinerals_35 : decode cX1_dropMinerals 35 = .ok (.putfield 59, 3) := by decide +kernel
theorem dX1_dropMinerals_38 : decode cX1_dropMinerals 38 = .ok (.aload_n 0, 1) := by decide +kernel
theorem dX1_dropMinerals_39 : decode cX1_dropMinerals 39 = .ok (.dup, 1) := by decide +kernel
theorem dX1_dropMinerals_40 : decode cX1_dropMinerals 40 = .ok (.getfield 36, 3) := by decide +kernel
theorem dX1_dropMinerals_43 : decode cX1_dropMinerals 43 = .ok (.iload_n 1, 1) := by decide +kernel
theorem dX1_dropMinerals_44 : decode cX1_dropMinerals 44 = .ok (.isub, 1) := by decide +kernel
theorem dX1_dropMinerals_45 : decode cX1_dropMinerals 45 = .ok (.putfield 36, 3) := by decide +kernel
theorem dX1_dropMinerals_48 : decode cX1_dropMinerals 48 = .ok (.aload_n 0, 1) := by decide +kernel
theorem dX1_dropMinerals_49 : decode cX1_dropMinerals 49 = .ok (.dup, 1) := by decide +kernel
theorem dX1_dropMinerals_50 : decode cX1_dropMinerals 50 = .ok (.getfield 22, 3) := by decide +kernel
theorem dX1_dropMinerals_53 : decode cX1_dropMinerals 53 = .ok (.aload_n 0, 1) := by decide +kernel
theorem dX1_dropMinerals_54 : decode cX1_dropMinerals 54 = .ok (.getfield 59, 3) := by decide +kernel
theorem dX1_dropMinerals_57 : decode cX1_dropMinerals 57 = .ok (.isub, 1) := by decide +kernel
theorem dX1_dropMinerals_58 : decode cX1_dropMinerals 58 = .ok (.putfield 22, 3) := by decide +kernel
theorem dX1_dropMinerals_61 : decode cX1_dropMinerals 61 = .ok (.aload_n 0, 1) := by decide +kernel
theorem dX1_dropMinerals_62 : decode cX1_dropMinerals 62 = .ok (.dup, 1) := by decide +kernel
theorem dX1_dropMinerals_63 : decode cX1_dropMinerals 63 = .ok (.getfield 25, 3) := by decide +kernel
theorem dX1_dropMinerals_66 : decode cX1_dropMinerals 66 = .ok (.iload_n 2, 1) := by decide +kernel
theorem dX1_dropMinerals_67 : decode cX1_dropMinerals 67 = .ok (.isub, 1) := by decide +kernel
theorem dX1_dropMinerals_68 : decode cX1_dropMinerals 68 = .ok (.putfield 25, 3) := by decide +kernel
theorem dX1_dropMinerals_71 : decode cX1_dropMinerals 71 = .ok (.aload_n 0, 1) := by decide +kernel
theorem dX1_dropMinerals_72 : decode cX1_dropMinerals 72 = .ok (.dup, 1) := by decide +kernel
theorem dX1_dropMinerals_73 : decode cX1_dropMinerals 73 = .ok (.getfield 42, 3) := by decide +kernel
theorem dX1_dropMinerals_76 : decode cX1_dropMinerals 76 = .ok (.aload_n 0, 1) := by decide +kernel
theorem dX1_dropMinerals_77 : decode cX1_dropMinerals 77 = .ok (.getfield 59, 3) := by decide +kernel
theorem dX1_dropMinerals_80 : decode cX1_dropMinerals 80 = .ok (.iadd, 1) := by decide +kernel
theorem dX1_dropMinerals_81 : decode cX1_dropMinerals 81 = .ok (.putfield 42, 3) := by decide +kernel
theorem dX1_dropMinerals_84 : decode cX1_dropMinerals 84 = .ok (.aload_n 0, 1) := by decide +kernel
theorem dX1_dropMinerals_85 : decode cX1_dropMinerals 85 = .ok (.dup, 1) := by decide +kernel
theorem dX1_dropMinerals_86 : decode cX1_dropMinerals 86 = .ok (.getfield 45, 3) := by decide +kernel
theorem dX1_dropMinerals_89 : decode cX1_dropMinerals 89 = .ok (.iload_n 1, 1) := by decide +kernel
theorem dX1_dropMinerals_90 : decode cX1_dropMinerals 90 = .ok (.iload_n 2, 1) := by decide +kernel
theorem dX1_dropMinerals_91 : decode cX1_dropMinerals 91 = .ok (.iadd, 1) := by decide +kernel
theorem dX1_dropMinerals_92 : decode cX1_dropMinerals 92 = .ok (.iadd, 1) := by decide +kernel
theorem dX1_dropMinerals_93 : decode cX1_dropMinerals 93 = .ok (.putfield 45, 3) := by decide +kernel
theorem dX1_dropMinerals_96 : decode cX1_dropMinerals 96 = .ok (.return_, 1) := by decide +kernel
theorem dX1_above_0 : decode cX1_above 0 = .ok (.lconst 0, 1) := by decide +kernel
theorem dX1_above_1 : decode cX1_above 1 = .ok (.iload_n 1, 1) := by decide +kernel
theorem dX1_above_2 : decode cX1_above 2 = .ok (.i2l, 1) := by decide +kernel
theorem dX1_above_3 : decode cX1_above 3 = .ok (.iload_n 2, 1) := by decide +kernel
theorem dX1_above_4 : decode cX1_above 4 = .ok (.i2l, 1) := by decide +kernel
theorem dX1_above_5 : decode cX1_above 5 = .ok (.aload_n 0, 1) := by decide +kernel
theorem dX1_above_6 : decode cX1_above 6 = .ok (.getfield 15, 3) := by decide +kernel
theorem dX1_above_9 : decode cX1_above 9 = .ok (.i2l, 1) := by decide +kernel
theorem dX1_above_10 : decode cX1_above 10 = .ok (.lmul, 1) := by decide +kernel
theorem dX1_above_11 : decode cX1_above 11 = .ok (.lsub, 1) := by decide +kernel
theorem dX1_above_12 : decode cX1_above 12 = .ok (.invokestatic 78, 3) := by decide +kernel
theorem dX1_above_15 : decode cX1_above 15 = .ok (.l2i, 1) := by decide +kernel
theorem dX1_above_16 : decode cX1_above 16 = .ok (.ireturn, 1) := by decide +kernel
theorem dX1_canBeHarvested_0 : decode cX1_canBeHarvested 0 = .ok (.aload_n 0, 1) := by decide +kernel
theorem dX1_canBeHarvested_1 : decode cX1_canBeHarvested 1 = .ok (.getfield 42, 3) := by decide +kernel
theorem dX1_canBeHarvested_4 : decode cX1_canBeHarvested 4 = .ok (.ifCond .le 14, 3) := by decide +kernel
theorem dX1_canBeHarvested_7 : decode cX1_canBeHarvested 7 = .ok (.aload_n 0, 1) := by decide +kernel
theorem dX1_canBeHarvested_8 : decode cX1_canBeHarvested 8 = .ok (.getfield 55, 3) := by decide +kernel
theorem dX1_canBeHarvested_11 : decode cX1_canBeHarvested 11 = .ok (.ifCond .ne 7, 3) := by decide +kernel
theorem dX1_canBeHarvested_14 : decode cX1_canBeHarvested 14 = .ok (.iconst 1, 1) := by decide +kernel
theorem dX1_canBeHarvested_15 : decode cX1_canBeHarvested 15 = .ok (.goto 4, 3) := by decide +kernel
theorem dX1_canBeHarvested_18 : decode cX1_canBeHarvested 18 = .ok (.iconst 0, 1) := by decide +kernel
theorem dX1_canBeHarvested_19 : decode cX1_canBeHarvested 19 = .ok (.ireturn, 1) := by decide +kernel
theorem dX1_saltOfHarvest_0 : decode cX1_saltOfHarvest 0 = .ok (.iload_n 1, 1) := by decide +kernel
theorem dX1_saltOfHarvest_1 : decode cX1_saltOfHarvest 1 = .ok (.ifCond .eq 10, 3) := by decide +kernel
theorem dX1_saltOfHarvest_4 : decode cX1_saltOfHarvest 4 = .ok (.aload_n 0, 1) := by decide +kernel
theorem dX1_saltOfHarvest_5 : decode cX1_saltOfHarvest 5 = .ok (.getfield 42, 3) := by decide +kernel
theorem dX1_saltOfHarvest_8 : decode cX1_saltOfHarvest 8 = .ok (.goto 18, 3) := by decide +kernel
theorem dX1_saltOfHarvest_11 : decode cX1_saltOfHarvest 11 = .ok (.aload_n 0, 1) := by decide +kernel
theorem dX1_saltOfHarvest_12 : decode cX1_saltOfHarvest 12 = .ok (.getfield 42, 3) := by decide +kernel
theorem dX1_saltOfHarvest_15 : decode cX1_saltOfHarvest 15 = .ok (.sipush 200, 3) := by decide +kernel
theorem dX1_saltOfHarvest_18 : decode cX1_saltOfHarvest 18 = .ok (.aload_n 0, 1) := by decide +kernel
theorem dX1_saltOfHarvest_19 : decode cX1_saltOfHarvest 19 = .ok (.getfield 9, 3) := by decide +kernel
theorem dX1_saltOfHarvest_22 : decode cX1_saltOfHarvest 22 = .ok (.imul, 1) := by decide +kernel
theorem dX1_saltOfHarvest_23 : decode cX1_saltOfHarvest 23 = .ok (.invokestatic 30, 3) := by decide +kernel
theorem dX1_saltOfHarvest_26 : decode cX1_saltOfHarvest 26 = .ok (.ireturn, 1) := by decide +kernel
set_option maxRecDepth 20000 in
theorem ggX1_dirtOfCrustWith_X3_portion : GoodIn wsX1_dirtOfCrustWith wsX3_portion := goodIn_r _ [5] (by decide +kernel) (by decide +kernel)
set_option maxRecDepth 20000 in
theorem gX1_dirtOfCrustWith_X3_portion_n18 : GoodIn wsX1_dirtOfCrustWith (wsX3_portion) := ggX1_dirtOfCrustWith_X3_portion
theorem dX1_dirtOfCrustWith_0 : decode cX1_dirtOfCrustWith 0 = .ok (.aload_n 0, 1) := by decide +kernel
theorem dX1_dirtOfCrustWith_1 : decode cX1_dirtOfCrustWith 1 = .ok (.getfield 45, 3) := by decide +kernel
theorem dX1_dirtOfCrustWith_4 : decode cX1_dirtOfCrustWith 4 = .ok (.i2l, 1) := by decide +kernel
theorem dX1_dirtOfCrustWith_5 : decode cX1_dirtOfCrustWith 5 = .ok (.iload_n 1, 1) := by decide +kernel
theorem dX1_dirtOfCrustWith_6 : decode cX1_dirtOfCrustWith 6 = .ok (.i2l, 1) := by decide +kernel
theorem dX1_dirtOfCrustWith_7 : decode cX1_dirtOfCrustWith 7 = .ok (.aload_n 0, 1) := by decide +kernel
theorem dX1_dirtOfCrustWith_8 : decode cX1_dirtOfCrustWith 8 = .ok (.getfield 42, 3) := by decide +kernel
theorem dX1_dirtOfCrustWith_11 : decode cX1_dirtOfCrustWith 11 = .ok (.i2l, 1) := by decide +kernel
theorem dX1_dirtOfCrustWith_12 : decode cX1_dirtOfCrustWith 12 = .ok (.invokestatic 18, 3) := by decide +kernel
theorem dX1_dirtOfCrustWith_15 : decode cX1_dirtOfCrustWith 15 = .ok (.ireturn, 1) := by decide +kernel
theorem dX1_dirtOfFloor_0 : decode cX1_dirtOfFloor 0 = .ok (.iload_n 1, 1) := by decide +kernel
theorem dX1_dirtOfFloor_1 : decode cX1_dirtOfFloor 1 = .ok (.ifCond .eq 13, 3) := by decide +kernel
theorem dX1_dirtOfFloor_4 : decode cX1_dirtOfFloor 4 = .ok (.bipush 10, 2) := by decide +kernel
theorem dX1_dirtOfFloor_6 : decode cX1_dirtOfFloor 6 = .ok (.aload_n 0, 1) := by decide +kernel
theorem dX1_dirtOfFloor_7 : decode cX1_dirtOfFloor 7 = .ok (.getfield 9, 3) := by decide +kernel
theorem dX1_dirtOfFloor_10 : decode cX1_dirtOfFloor 10 = .ok (.imul, 1) := by decide +kernel
theorem dX1_dirtOfFloor_11 : decode cX1_dirtOfFloor 11 = .ok (.goto 4, 3) := by decide +kernel
theorem dX1_dirtOfFloor_14 : decode cX1_dirtOfFloor 14 = .ok (.iconst 0, 1) := by decide +kernel
theorem dX1_dirtOfFloor_15 : decode cX1_dirtOfFloor 15 = .ok (.ireturn, 1) := by decide +kernel
set_option maxRecDepth 20000 in
theorem ggX2_init_X1_init : GoodIn wsX2_init wsX1_init := goodIn_r _ [9, 10, 2, 3, 11, 17, 18, 19, 20, 21, 22, 23, 24, 25, 26, 27, 28] (by decide +kernel) (by decide +kernel)
set_option maxRecDepth 20000 in
theorem gX2_init_X1_init_n17 : GoodIn wsX2_init (wsX1_init) := ggX2_init_X1_init
theorem dX2_init_0 : decode cX2_init 0 = .ok (.aload_n 0, 1) := by decide +kernel
theorem dX2_init_1 : decode cX2_init 1 = .ok (.invokespecial 3, 3) := by decide +kernel
theorem dX2_init_4 : decode cX2_init 4 = .ok (.aload_n 0, 1) := by decide +kernel
theorem dX2_init_5 : decode cX2_init 5 = .ok (.bipush 8, 2) := by decide +kernel
theorem dX2_init_7 : decode cX2_init 7 = .ok (.anewarray 9, 3) := by decide +kernel
theorem dX2_init_10 : decode cX2_init 10 = .ok (.putfield 11, 3) := by decide +kernel
theorem dX2_init_13 : decode cX2_init 13 = .ok (.iconst 0, 1) := by decide +kernel
theorem dX2_init_14 : decode cX2_init 14 = .ok (.istore_n 1, 1) := by decide +kernel
theorem dX2_init_15 : decode cX2_init 15 = .ok (.iload_n 1, 1) := by decide +kernel
theorem dX2_init_16 : decode cX2_init 16 = .ok (.aload_n 0, 1) := by decide +kernel
theorem dX2_init_17 : decode cX2_init 17 = .ok (.getfield 11, 3) := by decide +kernel
theorem dX2_init_20 : decode cX2_init 20 = .ok (.arraylength, 1) := by decide +kernel
theorem dX2_init_21 : decode cX2_init 21 = .ok (.if_icmp .ge 22, 3) := by decide +kernel
theorem dX2_init_24 : decode cX2_init 24 = .ok (.aload_n 0, 1) := by decide +kernel
theorem dX2_init_25 : decode cX2_init 25 = .ok (.getfield 11, 3) := by decide +kernel
theorem dX2_init_28 : decode cX2_init 28 = .ok (.iload_n 1, 1) := by decide +kernel
theorem dX2_init_29 : decode cX2_init 29 = .ok (.new 9, 3) := by decide +kernel
theorem dX2_init_32 : decode cX2_init 32 = .ok (.dup, 1) := by decide +kernel
theorem dX2_init_33 : decode cX2_init 33 = .ok (.invokespecial 17, 3) := by decide +kernel
theorem dX2_init_36 : decode cX2_init 36 = .ok (.aastore, 1) := by decide +kernel
theorem dX2_init_37 : decode cX2_init 37 = .ok (.iinc 1 1, 3) := by decide +kernel
theorem dX2_init_40 : decode cX2_init 40 = .ok (.goto (-25), 3) := by decide +kernel
theorem dX2_init_43 : decode cX2_init 43 = .ok (.return_, 1) := by decide +kernel
set_option maxRecDepth 20000 in
theorem ggX2_copyFrom_X1_copyFrom : GoodIn wsX2_copyFrom wsX1_copyFrom := goodIn_r _ [10, 11, 12, 13, 14, 15, 16, 17, 18, 19, 20, 21, 22, 28, 29, 30, 31, 32, 33, 34, 35, 36, 37, 38, 39] (by decide +kernel) (by decide +kernel)
set_option maxRecDepth 20000 in
theorem gX2_copyFrom_X1_copyFrom : GoodIn wsX2_copyFrom (wsV RX2 31 RX1 yX1_copyFrom wsX1_copyFrom) := goodIn_app (goodIn_of _ (by decide +kernel)) ggX2_copyFrom_X1_copyFrom
theorem dX2_copyFrom_0 : decode cX2_copyFrom 0 = .ok (.aload_n 0, 1) := by decide +kernel
theorem dX2_copyFrom_1 : decode cX2_copyFrom 1 = .ok (.aload_n 1, 1) := by decide +kernel
theorem dX2_copyFrom_2 : decode cX2_copyFrom 2 = .ok (.getfield 18, 3) := by decide +kernel
theorem dX2_copyFrom_5 : decode cX2_copyFrom 5 = .ok (.putfield 18, 3) := by decide +kernel
theorem dX2_copyFrom_8 : decode cX2_copyFrom 8 = .ok (.aload_n 0, 1) := by decide +kernel
theorem dX2_copyFrom_9 : decode cX2_copyFrom 9 = .ok (.aload_n 1, 1) := by decide +kernel
theorem dX2_copyFrom_10 : decode cX2_copyFrom 10 = .ok (.getfield 22, 3) := by decide +kernel
theorem dX2_copyFrom_13 : decode cX2_copyFrom 13 = .ok (.putfield 22, 3) := by decide +kernel
theorem dX2_copyFrom_16 : decode cX2_copyFrom 16 = .ok (.aload_n 0, 1) := by decide +kernel
theorem dX2_copyFrom_17 : decode cX2_copyFrom 17 = .ok (.aload_n 1, 1) := by decide +kernel
theorem dX2_copyFrom_18 : decode cX2_copyFrom 18 = .ok (.getfield 25, 3) := by decide +kernel
theorem dX2_copyFrom_21 : decode cX2_copyFrom 21 = .ok (.putfield 25, 3) := by decide +kernel
theorem dX2_copyFrom_24 : decode cX2_copyFrom 24 = .ok (.aload_n 0, 1) := by decide +kernel
theorem dX2_copyFrom_25 : decode cX2_copyFrom 25 = .ok (.aload_n 1, 1) := by decide +kernel
theorem dX2_copyFrom_26 : decode cX2_copyFrom 26 = .ok (.getfield 28, 3) := by decide +kernel
theorem dX2_copyFrom_29 : decode cX2_copyFrom 29 = .ok (.putfield 28, 3) := by decide +kernel
theorem dX2_copyFrom_32 : decode cX2_copyFrom 32 = .ok (.iconst 0, 1) := by decide +kernel
theorem dX2_copyFrom_33 : decode cX2_copyFrom 33 = .ok (.istore_n 2, 1) := by decide +kernel
theorem dX2_copyFrom_34 : decode cX2_copyFrom 34 = .ok (.iload_n 2, 1) := by decide +kernel
theorem dX2_copyFrom_35 : decode cX2_copyFrom 35 = .ok (.bipush 8, 2) := by decide +kernel
theorem dX2_copyFrom_37 : decode cX2_copyFrom 37 = .ok (.if_icmp .ge 24, 3) := by decide +kernel
theorem dX2_copyFrom_40 : decode cX2_copyFrom 40 = .ok (.aload_n 0, 1) := by decide +kernel
theorem dX2_copyFrom_41 : decode cX2_copyFrom 41 = .ok (.getfield 11, 3) := by decide +kernel
theorem dX2_copyFrom_44 : decode cX2_copyFrom 44 = .ok (.iload_n 2, 1) := by decide +kernel
theorem dX2_copyFrom_45 : decode cX2_copyFrom 45 = .ok (.aaload, 1) := by decide +kernel
theorem dX2_copyFrom_46 : decode cX2_copyFrom 46 = .ok (.aload_n 1, 1) := by decide +kernel
theorem dX2_copyFrom_47 : decode cX2_copyFrom 47 = .ok (.getfield 11, 3) := by decide +kernel
theorem dX2_copyFrom_50 : decode cX2_copyFrom 50 = .ok (.iload_n 2, 1) := by decide +kernel
theorem dX2_copyFrom_51 : decode cX2_copyFrom 51 = .ok (.aaload, 1) := by decide +kernel
theorem dX2_copyFrom_52 : decode cX2_copyFrom 52 = .ok (.invokevirtual 31, 3) := by decide +kernel
theorem dX2_copyFrom_55 : decode cX2_copyFrom 55 = .ok (.iinc 2 1, 3) := by decide +kernel
theorem dX2_copyFrom_58 : decode cX2_copyFrom 58 = .ok (.goto (-24), 3) := by decide +kernel
theorem dX2_copyFrom_61 : decode cX2_copyFrom 61 = .ok (.return_, 1) := by decide +kernel
set_option maxRecDepth 20000 in
theorem ggX2_letDayGoBy_X2_letSeaIn : GoodIn wsX2_letDayGoBy wsX2_letSeaIn := goodIn_r _ [10, 4, 1, 11, 12, 13, 14, 15, 16, 17, 18, 19, 20, 21, 22, 23, 24, 25, 26, 27, 28, 29, 30, 31, 32, 33, 34, 35, 36, 86, 87, 88, 89, 90, 91, 92, 93, 94, 95, 96, 97, 98, 99, 100, 101, 102] (by decide +kernel) (by decide +kernel)
set_option maxRecDepth 20000 in
theorem gX2_letDayGoBy_X2_letSeaIn : GoodIn wsX2_letDayGoBy (wsV RX2 35 RX2 yX2_letSeaIn wsX2_letSeaIn) := goodIn_app (goodIn_of _ (by decide +kernel)) ggX2_letDayGoBy_X2_letSeaIn
set_option maxRecDepth 20000 in
theorem ggX2_letDayGoBy_X2_letBrineFlowOn : GoodIn wsX2_letDayGoBy wsX2_letBrineFlowOn := goodIn_r _ [40, 4, 11, 12, 41, 42, 19, 43, 44, 21, 22, 23, 24, 25, 26, 27, 28, 15, 29, 45, 46, 47, 48, 34, 35, 36, 49, 31, 32, 33, 86, 87, 88, 89, 90, 91, 92, 93, 94, 95, 96, 97, 98, 99, 100, 101, 102] (by decide +kernel) (by decide +kernel)
set_option maxRecDepth 20000 in
theorem gX2_letDayGoBy_X2_letBrineFlowOn : GoodIn wsX2_letDayGoBy (wsV RX2 38 RX2 yX2_letBrineFlowOn wsX2_letBrineFlowOn) := goodIn_app (goodIn_of _ (by decide +kernel)) ggX2_letDayGoBy_X2_letBrineFlowOn
set_option maxRecDepth 20000 in
theorem ggX2_letDayGoBy_X1_rainFalls : GoodIn wsX2_letDayGoBy wsX1_rainFalls := goodIn_r _ [53, 54, 55, 27, 91, 92, 93, 94, 95, 96, 97, 98, 99, 100, 101, 102] (by decide +kernel) (by decide +kernel)
set_option maxRecDepth 20000 in
theorem gX2_letDayGoBy_X1_rainFalls : GoodIn wsX2_letDayGoBy (wsV RX2 45 RX1 yX1_rainFalls wsX1_rainFalls) := goodIn_app (goodIn_of _ (by decide +kernel)) ggX2_letDayGoBy_X1_rainFalls
set_option maxRecDepth 20000 in
theorem ggX2_letDayGoBy_X1_dryOut : GoodIn wsX2_letDayGoBy wsX1_dryOut := goodIn_r _ [59, 27, 55, 60, 42, 19, 43, 26, 61, 62, 63, 24, 64, 34, 36, 65, 28, 15, 29, 66, 67, 91, 92, 93, 94, 95, 96, 97, 98, 99, 100, 101, 102] (by decide +kernel) (by decide +kernel)
set_option maxRecDepth 20000 in
theorem gX2_letDayGoBy_X1_dryOut : GoodIn wsX2_letDayGoBy (wsV RX2 49 RX1 yX1_dryOut wsX1_dryOut) := goodIn_app (goodIn_of _ (by decide +kernel)) ggX2_letDayGoBy_X1_dryOut
set_option maxRecDepth 20000 in
theorem ggX2_letDayGoBy_X1_mixFresh : GoodIn wsX2_letDayGoBy wsX1_mixFresh := goodIn_r _ [71, 55, 72, 60, 42, 19, 43, 26, 34, 66, 15, 67, 91, 92, 93, 94, 95, 96, 97, 98, 99, 100, 101, 102] (by decide +kernel) (by decide +kernel)
set_option maxRecDepth 20000 in
theorem gX2_letDayGoBy_X1_mixFresh : GoodIn wsX2_letDayGoBy (wsV RX2 52 RX1 yX1_mixFresh wsX1_mixFresh) := goodIn_app (goodIn_of _ (by decide +kernel)) ggX2_letDayGoBy_X1_mixFresh
set_option maxRecDepth 20000 in
theorem ggX2_letDayGoBy_X1_dropMinerals : GoodIn wsX2_letDayGoBy wsX1_dropMinerals := goodIn_r _ [76, 35, 36, 34, 77, 72, 78, 79, 80, 81, 24, 82, 26, 83, 84, 19, 85, 91, 92, 93, 94, 95, 96, 97, 98, 99, 100, 101, 102] (by decide +kernel) (by decide +kernel)
set_option maxRecDepth 20000 in
theorem gX2_letDayGoBy_X1_dropMinerals : GoodIn wsX2_letDayGoBy (wsV RX2 55 RX1 yX1_dropMinerals wsX1_dropMinerals) := goodIn_app (goodIn_of _ (by decide +kernel)) ggX2_letDayGoBy_X1_dropMinerals
theorem dX2_letDayGoBy_0 : decode cX2_letDayGoBy 0 = .ok (.aload_n 0, 1) := by decide +kernel
theorem dX2_letDayGoBy_1 : decode cX2_letDayGoBy 1 = .ok (.dup, 1) := by decide +kernel
theorem dX2_letDayGoBy_2 : decode cX2_letDayGoBy 2 = .ok (.getfield 18, 3) := by decide +kernel
theorem dX2_letDayGoBy_5 : decode cX2_letDayGoBy 5 = .ok (.iconst 1, 1) := by decide +kernel
theorem dX2_letDayGoBy_6 : decode cX2_letDayGoBy 6 = .ok (.iadd, 1) := by decide +kernel
theorem dX2_letDayGoBy_7 : decode cX2_letDayGoBy 7 = .ok (.putfield 18, 3) := by decide +kernel
theorem dX2_letDayGoBy_10 : decode cX2_letDayGoBy 10 = .ok (.aload_n 0, 1) := by decide +kernel
theorem dX2_letDayGoBy_11 : decode cX2_letDayGoBy 11 = .ok (.iload_n 1, 1) := by decide +kernel
theorem dX2_letDayGoBy_12 : decode cX2_letDayGoBy 12 = .ok (.putfield 22, 3) := by decide +kernel
theorem dX2_letDayGoBy_15 : decode cX2_letDayGoBy 15 = .ok (.aload_n 0, 1) := by decide +kernel
theorem dX2_letDayGoBy_16 : decode cX2_letDayGoBy 16 = .ok (.iload_n 2, 1) := by decide +kernel
theorem dX2_letDayGoBy_17 : decode cX2_letDayGoBy 17 = .ok (.putfield 25, 3) := by decide +kernel
theorem dX2_letDayGoBy_20 : decode cX2_letDayGoBy 20 = .ok (.aload_n 0, 1) := by decide +kernel
theorem dX2_letDayGoBy_21 : decode cX2_letDayGoBy 21 = .ok (.invokevirtual 35, 3) := by decide +kernel
theorem dX2_letDayGoBy_24 : decode cX2_letDayGoBy 24 = .ok (.aload_n 0, 1) := by decide +kernel
theorem dX2_letDayGoBy_25 : decode cX2_letDayGoBy 25 = .ok (.invokevirtual 38, 3) := by decide +kernel
theorem dX2_letDayGoBy_28 : decode cX2_letDayGoBy 28 = .ok (.iconst 0, 1) := by decide +kernel
theorem dX2_letDayGoBy_29 : decode cX2_letDayGoBy 29 = .ok (.istore 4, 2) := by decide +kernel
theorem dX2_letDayGoBy_31 : decode cX2_letDayGoBy 31 = .ok (.iload 4, 2) := by decide +kernel
theorem dX2_letDayGoBy_33 : decode cX2_letDayGoBy 33 = .ok (.bipush 8, 2) := by decide +kernel
theorem dX2_letDayGoBy_35 : decode cX2_letDayGoBy 35 = .ok (.if_icmp .ge 54, 3) := by decide +kernel
theorem dX2_letDayGoBy_38 : decode cX2_letDayGoBy 38 = .ok (.aload_n 0, 1) := by decide +kernel
theorem dX2_letDayGoBy_39 : decode cX2_letDayGoBy 39 = .ok (.getfield 11, 3) := by decide +kernel
theorem dX2_letDayGoBy_42 : decode cX2_letDayGoBy 42 = .ok (.iload 4, 2) := by decide +kernel
theorem dX2_letDayGoBy_44 : decode cX2_letDayGoBy 44 = .ok (.aaload, 1) := by decide +kernel
theorem dX2_letDayGoBy_45 : decode cX2_letDayGoBy 45 = .ok (.astore 5, 2) := by decide +kernel
theorem dX2_letDayGoBy_47 : decode cX2_letDayGoBy 47 = .ok (.aload 5, 2) := by decide +kernel
theorem dX2_letDayGoBy_49 : decode cX2_letDayGoBy 49 = .ok (.iconst 0, 1) := by decide +kernel
theorem dX2_letDayGoBy_50 : decode cX2_letDayGoBy 50 = .ok (.putfield 41, 3) := by decide +kernel
theorem dX2_letDayGoBy_53 : decode cX2_letDayGoBy 53 = .ok (.aload 5, 2) := by decide +kernel
theorem dX2_letDayGoBy_55 : decode cX2_letDayGoBy 55 = .ok (.iload_n 3, 1) := by decide +kernel
theorem dX2_letDayGoBy_56 : decode cX2_letDayGoBy 56 = .ok (.invokevirtual 45, 3) := by decide +kernel
theorem dX2_letDayGoBy_59 : decode cX2_letDayGoBy 59 = .ok (.aload 5, 2) := by decide +kernel
theorem dX2_letDayGoBy_61 : decode cX2_letDayGoBy 61 = .ok (.aload_n 0, 1) := by decide +kernel
theorem dX2_letDayGoBy_62 : decode cX2_letDayGoBy 62 = .ok (.getfield 22, 3) := by decide +kernel
theorem dX2_letDayGoBy_65 : decode cX2_letDayGoBy 65 = .ok (.aload_n 0, 1) := by decide +kernel
theorem dX2_letDayGoBy_66 : decode cX2_letDayGoBy 66 = .ok (.getfield 25, 3) := by decide +kernel
theorem dX2_letDayGoBy_69 : decode cX2_letDayGoBy 69 = .ok (.iadd, 1) := by decide +kernel
theorem dX2_letDayGoBy_70 : decode cX2_letDayGoBy 70 = .ok (.invokevirtual 49, 3) := by decide +kernel
theorem dX2_letDayGoBy_73 : decode cX2_letDayGoBy 73 = .ok (.aload 5, 2) := by decide +kernel
theorem dX2_letDayGoBy_75 : decode cX2_letDayGoBy 75 = .ok (.invokevirtual 52, 3) := by decide +kernel
theorem dX2_letDayGoBy_78 : decode cX2_letDayGoBy 78 = .ok (.aload 5, 2) := by decide +kernel
theorem dX2_letDayGoBy_80 : decode cX2_letDayGoBy 80 = .ok (.invokevirtual 55, 3) := by decide +kernel
theorem dX2_letDayGoBy_83 : decode cX2_letDayGoBy 83 = .ok (.iinc 4 1, 3) := by decide +kernel
theorem dX2_letDayGoBy_86 : decode cX2_letDayGoBy 86 = .ok (.goto (-55), 3) := by decide +kernel
theorem dX2_letDayGoBy_89 : decode cX2_letDayGoBy 89 = .ok (.return_, 1) := by decide +kernel
set_option maxRecDepth 20000 in
theorem ggX2_letSeaIn_X3_tideAt : GoodIn wsX2_letSeaIn wsX3_tideAt := goodIn_r _ [8, 9, 10, 11, 12] (by decide +kernel) (by decide +kernel)
set_option maxRecDepth 20000 in
theorem gX2_letSeaIn_X3_tideAt_n58 : GoodIn wsX2_letSeaIn (wsX3_tideAt) := ggX2_letSeaIn_X3_tideAt
set_option maxRecDepth 20000 in
theorem ggX2_letSeaIn_X1_level : GoodIn wsX2_letSeaIn wsX1_level := goodIn_r _ [17, 18, 19, 20, 7, 21, 34, 35, 36, 37, 38, 39, 40, 41, 42, 43, 44, 45] (by decide +kernel) (by decide +kernel)
set_option maxRecDepth 20000 in
theorem gX2_letSeaIn_X1_level : GoodIn wsX2_letSeaIn (wsV RX2 62 RX1 yX1_level wsX1_level) := goodIn_app (goodIn_of _ (by decide +kernel)) ggX2_letSeaIn_X1_level
set_option maxRecDepth 20000 in
theorem ggX2_letSeaIn_X1_takeIn : GoodIn wsX2_letSeaIn wsX1_takeIn := goodIn_r _ [25, 18, 26, 27, 28, 34, 35, 36, 37, 38, 39, 40, 41, 42, 43, 44, 45] (by decide +kernel) (by decide +kernel)
set_option maxRecDepth 20000 in
theorem gX2_letSeaIn_X1_takeIn : GoodIn wsX2_letSeaIn (wsV RX2 72 RX1 yX1_takeIn wsX1_takeIn) := goodIn_app (goodIn_of _ (by decide +kernel)) ggX2_letSeaIn_X1_takeIn
theorem dX2_letSeaIn_0 : decode cX2_letSeaIn 0 = .ok (.aload_n 0, 1) := by decide +kernel
theorem dX2_letSeaIn_1 : decode cX2_letSeaIn 1 = .ok (.getfield 11, 3) := by decide +kernel
theorem dX2_letSeaIn_4 : decode cX2_letSeaIn 4 = .ok (.iconst 0, 1) := by decide +kernel
theorem dX2_letSeaIn_5 : decode cX2_letSeaIn 5 = .ok (.aaload, 1) := by decide +kernel
theorem dX2_letSeaIn_6 : decode cX2_letSeaIn 6 = .ok (.astore_n 1, 1) := by decide +kernel
theorem dX2_letSeaIn_7 : decode cX2_letSeaIn 7 = .ok (.bipush 10, 2) := by decide +kernel
theorem dX2_letSeaIn_9 : decode cX2_letSeaIn 9 = .ok (.aload_n 0, 1) := by decide +kernel
theorem dX2_letSeaIn_10 : decode cX2_letSeaIn 10 = .ok (.getfield 18, 3) := by decide +kernel
theorem dX2_letSeaIn_13 : decode cX2_letSeaIn 13 = .ok (.invokestatic 58, 3) := by decide +kernel
theorem dX2_letSeaIn_16 : decode cX2_letSeaIn 16 = .ok (.imul, 1) := by decide +kernel
theorem dX2_letSeaIn_17 : decode cX2_letSeaIn 17 = .ok (.aload_n 1, 1) := by decide +kernel
theorem dX2_letSeaIn_18 : decode cX2_letSeaIn 18 = .ok (.invokevirtual 62, 3) := by decide +kernel
theorem dX2_letSeaIn_21 : decode cX2_letSeaIn 21 = .ok (.isub, 1) := by decide +kernel
theorem dX2_letSeaIn_22 : decode cX2_letSeaIn 22 = .ok (.istore_n 2, 1) := by decide +kernel
theorem dX2_letSeaIn_23 : decode cX2_letSeaIn 23 = .ok (.aload_n 1, 1) := by decide +kernel
theorem dX2_letSeaIn_24 : decode cX2_letSeaIn 24 = .ok (.getfield 66, 3) := by decide +kernel
theorem dX2_letSeaIn_27 : decode cX2_letSeaIn 27 = .ok (.ifCond .eq 45, 3) := by decide +kernel
theorem dX2_letSeaIn_30 : decode cX2_letSeaIn 30 = .ok (.iload_n 2, 1) := by decide +kernel
theorem dX2_letSeaIn_31 : decode cX2_letSeaIn 31 = .ok (.ifCond .le 41, 3) := by decide +kernel
theorem dX2_letSeaIn_34 : decode cX2_letSeaIn 34 = .ok (.iload_n 2, 1) := by decide +kernel
theorem dX2_letSeaIn_35 : decode cX2_letSeaIn 35 = .ok (.aload_n 1, 1) := by decide +kernel
theorem dX2_letSeaIn_36 : decode cX2_letSeaIn 36 = .ok (.getfield 69, 3) := by decide +kernel
theorem dX2_letSeaIn_39 : decode cX2_letSeaIn 39 = .ok (.imul, 1) := by decide +kernel
theorem dX2_letSeaIn_40 : decode cX2_letSeaIn 40 = .ok (.iconst 4, 1) := by decide +kernel
theorem dX2_letSeaIn_41 : decode cX2_letSeaIn 41 = .ok (.idiv, 1) := by decide +kernel
theorem dX2_letSeaIn_42 : decode cX2_letSeaIn 42 = .ok (.istore_n 3, 1) := by decide +kernel
theorem dX2_letSeaIn_43 : decode cX2_letSeaIn 43 = .ok (.aload_n 1, 1) := by decide +kernel
theorem dX2_letSeaIn_44 : decode cX2_letSeaIn 44 = .ok (.iload_n 3, 1) := by decide +kernel
theorem dX2_letSeaIn_45 : decode cX2_letSeaIn 45 = .ok (.bipush 30, 2) := by decide +kernel
theorem dX2_letSeaIn_47 : decode cX2_letSeaIn 47 = .ok (.iload_n 3, 1) := by decide +kernel
theorem dX2_letSeaIn_48 : decode cX2_letSeaIn 48 = .ok (.imul, 1) := by decide +kernel
theorem dX2_letSeaIn_49 : decode cX2_letSeaIn 49 = .ok (.iconst 2, 1) := by decide +kernel
theorem dX2_letSeaIn_50 : decode cX2_letSeaIn 50 = .ok (.iload_n 3, 1) := by decide +kernel
theorem dX2_letSeaIn_51 : decode cX2_letSeaIn 51 = .ok (.imul, 1) := by decide +kernel
theorem dX2_letSeaIn_52 : decode cX2_letSeaIn 52 = .ok (.bipush 6, 2) := by decide +kernel
theorem dX2_letSeaIn_54 : decode cX2_letSeaIn 54 = .ok (.iload_n 3, 1) := by decide +kernel
theorem dX2_letSeaIn_55 : decode cX2_letSeaIn 55 = .ok (.imul, 1) := by decide +kernel
theorem dX2_letSeaIn_56 : decode cX2_letSeaIn 56 = .ok (.invokevirtual 72, 3) := by decide +kernel
theorem dX2_letSeaIn_59 : decode cX2_letSeaIn 59 = .ok (.aload_n 0, 1) := by decide +kernel
theorem dX2_letSeaIn_60 : decode cX2_letSeaIn 60 = .ok (.dup, 1) := by decide +kernel
theorem dX2_letSeaIn_61 : decode cX2_letSeaIn 61 = .ok (.getfield 28, 3) := by decide +kernel
theorem dX2_letSeaIn_64 : decode cX2_letSeaIn 64 = .ok (.bipush 30, 2) := by decide +kernel
theorem dX2_letSeaIn_66 : decode cX2_letSeaIn 66 = .ok (.iload_n 3, 1) := by decide +kernel
theorem dX2_letSeaIn_67 : decode cX2_letSeaIn 67 = .ok (.imul, 1) := by decide +kernel
theorem dX2_letSeaIn_68 : decode cX2_letSeaIn 68 = .ok (.iadd, 1) := by decide +kernel
theorem dX2_letSeaIn_69 : decode cX2_letSeaIn 69 = .ok (.putfield 28, 3) := by decide +kernel
theorem dX2_letSeaIn_72 : decode cX2_letSeaIn 72 = .ok (.return_, 1) := by decide +kernel
set_option maxRecDepth 20000 in
theorem ggX2_letBrineFlowOn_X1_level : GoodIn wsX2_letBrineFlowOn wsX1_level := goodIn_r _ [13, 14, 15, 16, 17, 18, 35, 36, 37, 38, 39, 40, 41, 42, 43, 44, 45, 46] (by decide +kernel) (by decide +kernel)
set_option maxRecDepth 20000 in
theorem gX2_letBrineFlowOn_X1_level : GoodIn wsX2_letBrineFlowOn (wsV RX2 62 RX1 yX1_level wsX1_level) := goodIn_app (goodIn_of _ (by decide +kernel)) ggX2_letBrineFlowOn_X1_level
set_option maxRecDepth 20000 in
theorem ggX2_letBrineFlowOn_X3_portion : GoodIn wsX2_letBrineFlowOn wsX3_portion := goodIn_r _ [18] (by decide +kernel) (by decide +kernel)
set_option maxRecDepth 20000 in
theorem gX2_letBrineFlowOn_X3_portion_n84 : GoodIn wsX2_letBrineFlowOn (wsX3_portion) := ggX2_letBrineFlowOn_X3_portion
set_option maxRecDepth 20000 in
theorem ggX2_letBrineFlowOn_X1_giveBrine : GoodIn wsX2_letBrineFlowOn wsX1_giveBrine := goodIn_r _ [22, 23, 14, 24, 25, 16, 17, 18, 26, 27, 28, 12, 29, 35, 36, 37, 38, 39, 40, 41, 42, 43, 44, 45, 46] (by decide +kernel) (by decide +kernel)
set_option maxRecDepth 20000 in
theorem gX2_letBrineFlowOn_X1_giveBrine : GoodIn wsX2_letBrineFlowOn (wsV RX2 88 RX1 yX1_giveBrine wsX1_giveBrine) := goodIn_app (goodIn_of _ (by decide +kernel)) ggX2_letBrineFlowOn_X1_giveBrine
theorem dX2_letBrineFlowOn_0 : decode cX2_letBrineFlowOn 0 = .ok (.bipush 7, 2) := by decide +kernel
theorem dX2_letBrineFlowOn_2 : decode cX2_letBrineFlowOn 2 = .ok (.istore_n 1, 1) := by decide +kernel
theorem dX2_letBrineFlowOn_3 : decode cX2_letBrineFlowOn 3 = .ok (.iload_n 1, 1) := by decide +kernel
theorem dX2_letBrineFlowOn_4 : decode cX2_letBrineFlowOn 4 = .ok (.ifCond .le 74, 3) := by decide +kernel
theorem dX2_letBrineFlowOn_7 : decode cX2_letBrineFlowOn 7 = .ok (.aload_n 0, 1) := by decide +kernel
theorem dX2_letBrineFlowOn_8 : decode cX2_letBrineFlowOn 8 = .ok (.getfield 11, 3) := by decide +kernel
theorem dX2_letBrineFlowOn_11 : decode cX2_letBrineFlowOn 11 = .ok (.iload_n 1, 1) := by decide +kernel
theorem dX2_letBrineFlowOn_12 : decode cX2_letBrineFlowOn 12 = .ok (.iconst 1, 1) := by decide +kernel
theorem dX2_letBrineFlowOn_13 : decode cX2_letBrineFlowOn 13 = .ok (.isub, 1) := by decide +kernel
theorem dX2_letBrineFlowOn_14 : decode cX2_letBrineFlowOn 14 = .ok (.aaload, 1) := by decide +kernel
theorem dX2_letBrineFlowOn_15 : decode cX2_letBrineFlowOn 15 = .ok (.astore_n 2, 1) := by decide +kernel
theorem dX2_letBrineFlowOn_16 : decode cX2_letBrineFlowOn 16 = .ok (.aload_n 0, 1) := by decide +kernel
theorem dX2_letBrineFlowOn_17 : decode cX2_letBrineFlowOn 17 = .ok (.getfield 11, 3) := by decide +kernel
theorem dX2_letBrineFlowOn_20 : decode cX2_letBrineFlowOn 20 = .ok (.iload_n 1, 1) := by decide +kernel
theorem dX2_letBrineFlowOn_21 : decode cX2_letBrineFlowOn 21 = .ok (.aaload, 1) := by decide +kernel
theorem dX2_letBrineFlowOn_22 : decode cX2_letBrineFlowOn 22 = .ok (.astore_n 3, 1) := by decide +kernel
theorem dX2_letBrineFlowOn_23 : decode cX2_letBrineFlowOn 23 = .ok (.aload_n 2, 1) := by decide +kernel
theorem dX2_letBrineFlowOn_24 : decode cX2_letBrineFlowOn 24 = .ok (.invokevirtual 62, 3) := by decide +kernel
theorem dX2_letBrineFlowOn_27 : decode cX2_letBrineFlowOn 27 = .ok (.aload_n 3, 1) := by decide +kernel
theorem dX2_letBrineFlowOn_28 : decode cX2_letBrineFlowOn 28 = .ok (.invokevirtual 62, 3) := by decide +kernel
theorem dX2_letBrineFlowOn_31 : decode cX2_letBrineFlowOn 31 = .ok (.isub, 1) := by decide +kernel
theorem dX2_letBrineFlowOn_32 : decode cX2_letBrineFlowOn 32 = .ok (.istore 4, 2) := by decide +kernel
theorem dX2_letBrineFlowOn_34 : decode cX2_letBrineFlowOn 34 = .ok (.aload_n 3, 1) := by decide +kernel
theorem dX2_letBrineFlowOn_35 : decode cX2_letBrineFlowOn 35 = .ok (.getfield 66, 3) := by decide +kernel
theorem dX2_letBrineFlowOn_38 : decode cX2_letBrineFlowOn 38 = .ok (.ifCond .eq 34, 3) := by decide +kernel
theorem dX2_letBrineFlowOn_41 : decode cX2_letBrineFlowOn 41 = .ok (.iload 4, 2) := by decide +kernel
theorem dX2_letBrineFlowOn_43 : decode cX2_letBrineFlowOn 43 = .ok (.ifCond .le 29, 3) := by decide +kernel
theorem dX2_letBrineFlowOn_46 : decode cX2_letBrineFlowOn 46 = .ok (.aload_n 2, 1) := by decide +kernel
theorem dX2_letBrineFlowOn_47 : decode cX2_letBrineFlowOn 47 = .ok (.aload_n 3, 1) := by decide +kernel
theorem dX2_letBrineFlowOn_48 : decode cX2_letBrineFlowOn 48 = .ok (.iload 4, 2) := by decide +kernel
theorem dX2_letBrineFlowOn_50 : decode cX2_letBrineFlowOn 50 = .ok (.i2l, 1) := by decide +kernel
theorem dX2_letBrineFlowOn_51 : decode cX2_letBrineFlowOn 51 = .ok (.aload_n 2, 1) := by decide +kernel
theorem dX2_letBrineFlowOn_52 : decode cX2_letBrineFlowOn 52 = .ok (.getfield 69, 3) := by decide +kernel
theorem dX2_letBrineFlowOn_55 : decode cX2_letBrineFlowOn 55 = .ok (.aload_n 3, 1) := by decide +kernel
theorem dX2_letBrineFlowOn_56 : decode cX2_letBrineFlowOn 56 = .ok (.getfield 69, 3) := by decide +kernel
theorem dX2_letBrineFlowOn_59 : decode cX2_letBrineFlowOn 59 = .ok (.invokestatic 76, 3) := by decide +kernel
theorem dX2_letBrineFlowOn_62 : decode cX2_letBrineFlowOn 62 = .ok (.i2l, 1) := by decide +kernel
theorem dX2_letBrineFlowOn_63 : decode cX2_letBrineFlowOn 63 = .ok (.ldc2_w 82, 3) := by decide +kernel
theorem dX2_letBrineFlowOn_66 : decode cX2_letBrineFlowOn 66 = .ok (.invokestatic 84, 3) := by decide +kernel
theorem dX2_letBrineFlowOn_69 : decode cX2_letBrineFlowOn 69 = .ok (.invokevirtual 88, 3) := by decide +kernel
theorem dX2_letBrineFlowOn_72 : decode cX2_letBrineFlowOn 72 = .ok (.iinc 1 (-1), 3) := by decide +kernel
theorem dX2_letBrineFlowOn_75 : decode cX2_letBrineFlowOn 75 = .ok (.goto (-72), 3) := by decide +kernel
theorem dX2_letBrineFlowOn_78 : decode cX2_letBrineFlowOn 78 = .ok (.return_, 1) := by decide +kernel
theorem dX2_setGates_0 : decode cX2_setGates 0 = .ok (.iconst 0, 1) := by decide +kernel
theorem dX2_setGates_1 : decode cX2_setGates 1 = .ok (.istore_n 2, 1) := by decide +kernel
theorem dX2_setGates_2 : decode cX2_setGates 2 = .ok (.iload_n 2, 1) := by decide +kernel
theorem dX2_setGates_3 : decode cX2_setGates 3 = .ok (.bipush 8, 2) := by decide +kernel
theorem dX2_setGates_5 : decode cX2_setGates 5 = .ok (.if_icmp .ge 32, 3) := by decide +kernel
theorem dX2_setGates_8 : decode cX2_setGates 8 = .ok (.aload_n 0, 1) := by decide +kernel
theorem dX2_setGates_9 : decode cX2_setGates 9 = .ok (.getfield 11, 3) := by decide +kernel
theorem dX2_setGates_12 : decode cX2_setGates 12 = .ok (.iload_n 2, 1) := by decide +kernel
theorem dX2_setGates_13 : decode cX2_setGates 13 = .ok (.aaload, 1) := by decide +kernel
theorem dX2_setGates_14 : decode cX2_setGates 14 = .ok (.iload_n 1, 1) := by decide +kernel
theorem dX2_setGates_15 : decode cX2_setGates 15 = .ok (.iload_n 2, 1) := by decide +kernel
theorem dX2_setGates_16 : decode cX2_setGates 16 = .ok (.ishr, 1) := by decide +kernel
theorem dX2_setGates_17 : decode cX2_setGates 17 = .ok (.iconst 1, 1) := by decide +kernel
theorem dX2_setGates_18 : decode cX2_setGates 18 = .ok (.iand, 1) := by decide +kernel
theorem dX2_setGates_19 : decode cX2_setGates 19 = .ok (.iconst 1, 1) := by decide +kernel
theorem dX2_setGates_20 : decode cX2_setGates 20 = .ok (.if_icmp .ne 7, 3) := by decide +kernel
theorem dX2_setGates_23 : decode cX2_setGates 23 = .ok (.iconst 1, 1) := by decide +kernel
theorem dX2_setGates_24 : decode cX2_setGates 24 = .ok (.goto 4, 3) := by decide +kernel
theorem dX2_setGates_27 : decode cX2_setGates 27 = .ok (.iconst 0, 1) := by decide +kernel
theorem dX2_setGates_28 : decode cX2_setGates 28 = .ok (.putfield 66, 3) := by decide +kernel
theorem dX2_setGates_31 : decode cX2_setGates 31 = .ok (.iinc 2 1, 3) := by decide +kernel
theorem dX2_setGates_34 : decode cX2_setGates 34 = .ok (.goto (-32), 3) := by decide +kernel
theorem dX2_setGates_37 : decode cX2_setGates 37 = .ok (.return_, 1) := by decide +kernel
theorem dX2_openGates_0 : decode cX2_openGates 0 = .ok (.iconst 0, 1) := by decide +kernel
theorem dX2_openGates_1 : decode cX2_openGates 1 = .ok (.istore_n 1, 1) := by decide +kernel
theorem dX2_openGates_2 : decode cX2_openGates 2 = .ok (.iconst 0, 1) := by decide +kernel
theorem dX2_openGates_3 : decode cX2_openGates 3 = .ok (.istore_n 2, 1) := by decide +kernel
theorem dX2_openGates_4 : decode cX2_openGates 4 = .ok (.iload_n 2, 1) := by decide +kernel
theorem dX2_openGates_5 : decode cX2_openGates 5 = .ok (.bipush 8, 2) := by decide +kernel
theorem dX2_openGates_7 : decode cX2_openGates 7 = .ok (.if_icmp .ge 31, 3) := by decide +kernel
theorem dX2_openGates_10 : decode cX2_openGates 10 = .ok (.iload_n 1, 1) := by decide +kernel
theorem dX2_openGates_11 : decode cX2_openGates 11 = .ok (.aload_n 0, 1) := by decide +kernel
theorem dX2_openGates_12 : decode cX2_openGates 12 = .ok (.getfield 11, 3) := by decide +kernel
theorem dX2_openGates_15 : decode cX2_openGates 15 = .ok (.iload_n 2, 1) := by decide +kernel
theorem dX2_openGates_16 : decode cX2_openGates 16 = .ok (.aaload, 1) := by decide +kernel
theorem dX2_openGates_17 : decode cX2_openGates 17 = .ok (.getfield 66, 3) := by decide +kernel
theorem dX2_openGates_20 : decode cX2_openGates 20 = .ok (.ifCond .eq 9, 3) := by decide +kernel
theorem dX2_openGates_23 : decode cX2_openGates 23 = .ok (.iconst 1, 1) := by decide +kernel
theorem dX2_openGates_24 : decode cX2_openGates 24 = .ok (.iload_n 2, 1) := by decide +kernel
theorem dX2_openGates_25 : decode cX2_openGates 25 = .ok (.ishl, 1) := by decide +kernel
theorem dX2_openGates_26 : decode cX2_openGates 26 = .ok (.goto 4, 3) := by decide +kernel
theorem dX2_openGates_29 : decode cX2_openGates 29 = .ok (.iconst 0, 1) := by decide +kernel
theorem dX2_openGates_30 : decode cX2_openGates 30 = .ok (.iadd, 1) := by decide +kernel
theorem dX2_openGates_31 : decode cX2_openGates 31 = .ok (.istore_n 1, 1) := by decide +kernel
theorem dX2_openGates_32 : decode cX2_openGates 32 = .ok (.iinc 2 1, 3) := by decide +kernel
theorem dX2_openGates_35 : decode cX2_openGates 35 = .ok (.goto (-31), 3) := by decide +kernel
theorem dX2_openGates_38 : decode cX2_openGates 38 = .ok (.iload_n 1, 1) := by decide +kernel
theorem dX2_openGates_39 : decode cX2_openGates 39 = .ok (.ireturn, 1) := by decide +kernel
theorem dX2_coveredPans_0 : decode cX2_coveredPans 0 = .ok (.iconst 0, 1) := by decide +kernel
theorem dX2_coveredPans_1 : decode cX2_coveredPans 1 = .ok (.istore_n 1, 1) := by decide +kernel
theorem dX2_coveredPans_2 : decode cX2_coveredPans 2 = .ok (.iconst 0, 1) := by decide +kernel
theorem dX2_coveredPans_3 : decode cX2_coveredPans 3 = .ok (.istore_n 2, 1) := by decide +kernel
theorem dX2_coveredPans_4 : decode cX2_coveredPans 4 = .ok (.iload_n 2, 1) := by decide +kernel
theorem dX2_coveredPans_5 : decode cX2_coveredPans 5 = .ok (.bipush 8, 2) := by decide +kernel
theorem dX2_coveredPans_7 : decode cX2_coveredPans 7 = .ok (.if_icmp .ge 31, 3) := by decide +kernel
theorem dX2_coveredPans_10 : decode cX2_coveredPans 10 = .ok (.iload_n 1, 1) := by decide +kernel
theorem dX2_coveredPans_11 : decode cX2_coveredPans 11 = .ok (.aload_n 0, 1) := by decide +kernel
theorem dX2_coveredPans_12 : decode cX2_coveredPans 12 = .ok (.getfield 11, 3) := by decide +kernel
theorem dX2_coveredPans_15 : decode cX2_coveredPans 15 = .ok (.iload_n 2, 1) := by decide +kernel
theorem dX2_coveredPans_16 : decode cX2_coveredPans 16 = .ok (.aaload, 1) := by decide +kernel
theorem dX2_coveredPans_17 : decode cX2_coveredPans 17 = .ok (.getfield 92, 3) := by decide +kernel
theorem dX2_coveredPans_20 : decode cX2_coveredPans 20 = .ok (.ifCond .eq 9, 3) := by decide +kernel
theorem dX2_coveredPans_23 : decode cX2_coveredPans 23 = .ok (.iconst 1, 1) := by decide +kernel
theorem dX2_coveredPans_24 : decode cX2_coveredPans 24 = .ok (.iload_n 2, 1) := by decide +kernel
theorem dX2_coveredPans_25 : decode cX2_coveredPans 25 = .ok (.ishl, 1) := by decide +kernel
theorem dX2_coveredPans_26 : decode cX2_coveredPans 26 = .ok (.goto 4, 3) := by decide +kernel
theorem dX2_coveredPans_29 : decode cX2_coveredPans 29 = .ok (.iconst 0, 1) := by decide +kernel
theorem dX2_coveredPans_30 : decode cX2_coveredPans 30 = .ok (.iadd, 1) := by decide +kernel
theorem dX2_coveredPans_31 : decode cX2_coveredPans 31 = .ok (.istore_n 1, 1) := by decide +kernel
theorem dX2_coveredPans_32 : decode cX2_coveredPans 32 = .ok (.iinc 2 1, 3) := by decide +kernel
theorem dX2_coveredPans_35 : decode cX2_coveredPans 35 = .ok (.goto (-31), 3) := by decide +kernel
theorem dX2_coveredPans_38 : decode cX2_coveredPans 38 = .ok (.iload_n 1, 1) := by decide +kernel
theorem dX2_coveredPans_39 : decode cX2_coveredPans 39 = .ok (.ireturn, 1) := by decide +kernel
theorem dX2_saltFallenInPans_0 : decode cX2_saltFallenInPans 0 = .ok (.iconst 0, 1) := by decide +kernel
theorem dX2_saltFallenInPans_1 : decode cX2_saltFallenInPans 1 = .ok (.istore_n 1, 1) := by decide +kernel
theorem dX2_saltFallenInPans_2 : decode cX2_saltFallenInPans 2 = .ok (.iconst 5, 1) := by decide +kernel
theorem dX2_saltFallenInPans_3 : decode cX2_saltFallenInPans 3 = .ok (.istore_n 2, 1) := by decide +kernel
theorem dX2_saltFallenInPans_4 : decode cX2_saltFallenInPans 4 = .ok (.iload_n 2, 1) := by decide +kernel
theorem dX2_saltFallenInPans_5 : decode cX2_saltFallenInPans 5 = .ok (.bipush 8, 2) := by decide +kernel
theorem dX2_saltFallenInPans_7 : decode cX2_saltFallenInPans 7 = .ok (.if_icmp .ge 21, 3) := by decide +kernel
theorem dX2_saltFallenInPans_10 : decode cX2_saltFallenInPans 10 = .ok (.iload_n 1, 1) := by decide +kernel
theorem dX2_saltFallenInPans_11 : decode cX2_saltFallenInPans 11 = .ok (.aload_n 0, 1) := by decide +kernel
theorem dX2_saltFallenInPans_12 : decode cX2_saltFallenInPans 12 = .ok (.getfield 11, 3) := by decide +kernel
theorem dX2_saltFallenInPans_15 : decode cX2_saltFallenInPans 15 = .ok (.iload_n 2, 1) := by decide +kernel
theorem dX2_saltFallenInPans_16 : decode cX2_saltFallenInPans 16 = .ok (.aaload, 1) := by decide +kernel
theorem dX2_saltFallenInPans_17 : decode cX2_saltFallenInPans 17 = .ok (.getfield 95, 3) := by decide +kernel
theorem dX2_saltFallenInPans_20 : decode cX2_saltFallenInPans 20 = .ok (.iadd, 1) := by decide +kernel
theorem dX2_saltFallenInPans_21 : decode cX2_saltFallenInPans 21 = .ok (.istore_n 1, 1) := by decide +kernel
theorem dX2_saltFallenInPans_22 : decode cX2_saltFallenInPans 22 = .ok (.iinc 2 1, 3) := by decide +kernel
theorem dX2_saltFallenInPans_25 : decode cX2_saltFallenInPans 25 = .ok (.goto (-21), 3) := by decide +kernel
theorem dX2_saltFallenInPans_28 : decode cX2_saltFallenInPans 28 = .ok (.iload_n 1, 1) := by decide +kernel
theorem dX2_saltFallenInPans_29 : decode cX2_saltFallenInPans 29 = .ok (.ireturn, 1) := by decide +kernel
theorem dX2_saltInPans_0 : decode cX2_saltInPans 0 = .ok (.iconst 0, 1) := by decide +kernel
theorem dX2_saltInPans_1 : decode cX2_saltInPans 1 = .ok (.istore_n 1, 1) := by decide +kernel
theorem dX2_saltInPans_2 : decode cX2_saltInPans 2 = .ok (.iconst 5, 1) := by decide +kernel
theorem dX2_saltInPans_3 : decode cX2_saltInPans 3 = .ok (.istore_n 2, 1) := by decide +kernel
theorem dX2_saltInPans_4 : decode cX2_saltInPans 4 = .ok (.iload_n 2, 1) := by decide +kernel
theorem dX2_saltInPans_5 : decode cX2_saltInPans 5 = .ok (.bipush 8, 2) := by decide +kernel
theorem dX2_saltInPans_7 : decode cX2_saltInPans 7 = .ok (.if_icmp .ge 31, 3) := by decide +kernel
theorem dX2_saltInPans_10 : decode cX2_saltInPans 10 = .ok (.iload_n 1, 1) := by decide +kernel
theorem dX2_saltInPans_11 : decode cX2_saltInPans 11 = .ok (.aload_n 0, 1) := by decide +kernel
theorem dX2_saltInPans_12 : decode cX2_saltInPans 12 = .ok (.getfield 11, 3) := by decide +kernel
theorem dX2_saltInPans_15 : decode cX2_saltInPans 15 = .ok (.iload_n 2, 1) := by decide +kernel
theorem dX2_saltInPans_16 : decode cX2_saltInPans 16 = .ok (.aaload, 1) := by decide +kernel
theorem dX2_saltInPans_17 : decode cX2_saltInPans 17 = .ok (.getfield 98, 3) := by decide +kernel
theorem dX2_saltInPans_20 : decode cX2_saltInPans 20 = .ok (.aload_n 0, 1) := by decide +kernel
theorem dX2_saltInPans_21 : decode cX2_saltInPans 21 = .ok (.getfield 11, 3) := by decide +kernel
theorem dX2_saltInPans_24 : decode cX2_saltInPans 24 = .ok (.iload_n 2, 1) := by decide +kernel
theorem dX2_saltInPans_25 : decode cX2_saltInPans 25 = .ok (.aaload, 1) := by decide +kernel
theorem dX2_saltInPans_26 : decode cX2_saltInPans 26 = .ok (.getfield 101, 3) := by decide +kernel
theorem dX2_saltInPans_29 : decode cX2_saltInPans 29 = .ok (.iadd, 1) := by decide +kernel
theorem dX2_saltInPans_30 : decode cX2_saltInPans 30 = .ok (.iadd, 1) := by decide +kernel
theorem dX2_saltInPans_31 : decode cX2_saltInPans 31 = .ok (.istore_n 1, 1) := by decide +kernel
theorem dX2_saltInPans_32 : decode cX2_saltInPans 32 = .ok (.iinc 2 1, 3) := by decide +kernel
theorem dX2_saltInPans_35 : decode cX2_saltInPans 35 = .ok (.goto (-31), 3) := by decide +kernel
theorem dX2_saltInPans_38 : decode cX2_saltInPans 38 = .ok (.iload_n 1, 1) := by decide +kernel
theorem dX2_saltInPans_39 : decode cX2_saltInPans 39 = .ok (.ireturn, 1) := by decide +kernel
set_option maxRecDepth 20000 in
theorem ggX2_sumOfPonds_X1_read : GoodIn wsX2_sumOfPonds wsX1_read := goodIn_r _ [6, 7, 8, 9, 10, 11, 12, 13, 14, 15, 16, 17, 18, 5, 19, 20, 21, 22, 23, 24, 25, 26, 27, 28, 29, 30, 31, 37, 38, 39, 40, 41, 42, 43, 44, 45, 46, 47, 48] (by decide +kernel) (by decide +kernel)
set_option maxRecDepth 20000 in
theorem gX2_sumOfPonds_X1_read : GoodIn wsX2_sumOfPonds (wsV RX2 104 RX1 yX1_read wsX1_read) := goodIn_app (goodIn_of _ (by decide +kernel)) ggX2_sumOfPonds_X1_read
theorem dX2_sumOfPonds_0 : decode cX2_sumOfPonds 0 = .ok (.iconst 0, 1) := by decide +kernel
theorem dX2_sumOfPonds_1 : decode cX2_sumOfPonds 1 = .ok (.istore_n 2, 1) := by decide +kernel
theorem dX2_sumOfPonds_2 : decode cX2_sumOfPonds 2 = .ok (.iconst 0, 1) := by decide +kernel
theorem dX2_sumOfPonds_3 : decode cX2_sumOfPonds 3 = .ok (.istore_n 3, 1) := by decide +kernel
theorem dX2_sumOfPonds_4 : decode cX2_sumOfPonds 4 = .ok (.iload_n 3, 1) := by decide +kernel
theorem dX2_sumOfPonds_5 : decode cX2_sumOfPonds 5 = .ok (.bipush 8, 2) := by decide +kernel
theorem dX2_sumOfPonds_7 : decode cX2_sumOfPonds 7 = .ok (.if_icmp .ge 22, 3) := by decide +kernel
theorem dX2_sumOfPonds_10 : decode cX2_sumOfPonds 10 = .ok (.iload_n 2, 1) := by decide +kernel
theorem dX2_sumOfPonds_11 : decode cX2_sumOfPonds 11 = .ok (.aload_n 0, 1) := by decide +kernel
theorem dX2_sumOfPonds_12 : decode cX2_sumOfPonds 12 = .ok (.getfield 11, 3) := by decide +kernel
theorem dX2_sumOfPonds_15 : decode cX2_sumOfPonds 15 = .ok (.iload_n 3, 1) := by decide +kernel
theorem dX2_sumOfPonds_16 : decode cX2_sumOfPonds 16 = .ok (.aaload, 1) := by decide +kernel
theorem dX2_sumOfPonds_17 : decode cX2_sumOfPonds 17 = .ok (.iload_n 1, 1) := by decide +kernel
theorem dX2_sumOfPonds_18 : decode cX2_sumOfPonds 18 = .ok (.invokevirtual 104, 3) := by decide +kernel
theorem dX2_sumOfPonds_21 : decode cX2_sumOfPonds 21 = .ok (.iadd, 1) := by decide +kernel
theorem dX2_sumOfPonds_22 : decode cX2_sumOfPonds 22 = .ok (.istore_n 2, 1) := by decide +kernel
theorem dX2_sumOfPonds_23 : decode cX2_sumOfPonds 23 = .ok (.iinc 3 1, 3) := by decide +kernel
theorem dX2_sumOfPonds_26 : decode cX2_sumOfPonds 26 = .ok (.goto (-22), 3) := by decide +kernel
theorem dX2_sumOfPonds_29 : decode cX2_sumOfPonds 29 = .ok (.iload_n 2, 1) := by decide +kernel
theorem dX2_sumOfPonds_30 : decode cX2_sumOfPonds 30 = .ok (.ireturn, 1) := by decide +kernel
set_option maxRecDepth 20000 in
theorem ggX3_init_X2_init : GoodIn wsX3_init wsX2_init := goodIn_r _ [15, 16, 2, 3, 17, 18, 19, 20, 21, 22, 23, 24, 30, 31, 32, 33, 34, 51, 52, 53, 54, 55, 56, 57, 58, 59, 60, 61, 62] (by decide +kernel) (by decide +kernel)
set_option maxRecDepth 20000 in
theorem gX3_init_X2_init : GoodIn wsX3_init (wsX2_init) := ggX3_init_X2_init
set_option maxRecDepth 20000 in
theorem ggX3_init_X0_init : GoodIn wsX3_init wsX0_init := goodIn_r _ [26, 27, 2, 3, 28, 29, 45, 46, 47, 48, 49, 50] (by decide +kernel) (by decide +kernel)
set_option maxRecDepth 20000 in
theorem gX3_init_X0_init_n25 : GoodIn wsX3_init (wsX0_init) := ggX3_init_X0_init
theorem dX3_init_0 : decode cX3_init 0 = .ok (.aload_n 0, 1) := by decide +kernel
theorem dX3_init_1 : decode cX3_init 1 = .ok (.invokespecial 1, 3) := by decide +kernel
theorem dX3_init_4 : decode cX3_init 4 = .ok (.aload_n 0, 1) := by decide +kernel
theorem dX3_init_5 : decode cX3_init 5 = .ok (.new 7, 3) := by decide +kernel
theorem dX3_init_8 : decode cX3_init 8 = .ok (.dup, 1) := by decide +kernel
theorem dX3_init_9 : decode cX3_init 9 = .ok (.invokespecial 9, 3) := by decide +kernel
theorem dX3_init_12 : decode cX3_init 12 = .ok (.putfield 10, 3) := by decide +kernel
theorem dX3_init_15 : decode cX3_init 15 = .ok (.aload_n 0, 1) := by decide +kernel
theorem dX3_init_16 : decode cX3_init 16 = .ok (.new 7, 3) := by decide +kernel
theorem dX3_init_19 : decode cX3_init 19 = .ok (.dup, 1) := by decide +kernel
theorem dX3_init_20 : decode cX3_init 20 = .ok (.invokespecial 9, 3) := by decide +kernel
theorem dX3_init_23 : decode cX3_init 23 = .ok (.putfield 16, 3) := by decide +kernel
theorem dX3_init_26 : decode cX3_init 26 = .ok (.aload_n 0, 1) := by decide +kernel
theorem dX3_init_27 : decode cX3_init 27 = .ok (.bipush 6, 2) := by decide +kernel
theorem dX3_init_29 : decode cX3_init 29 = .ok (.anewarray 19, 3) := by decide +kernel
theorem dX3_init_32 : decode cX3_init 32 = .ok (.putfield 21, 3) := by decide +kernel
theorem dX3_init_35 : decode cX3_init 35 = .ok (.iconst 0, 1) := by decide +kernel
theorem dX3_init_36 : decode cX3_init 36 = .ok (.istore_n 1, 1) := by decide +kernel
theorem dX3_init_37 : decode cX3_init 37 = .ok (.iload_n 1, 1) := by decide +kernel
theorem dX3_init_38 : decode cX3_init 38 = .ok (.aload_n 0, 1) := by decide +kernel
theorem dX3_init_39 : decode cX3_init 39 = .ok (.getfield 21, 3) := by decide +kernel
theorem dX3_init_42 : decode cX3_init 42 = .ok (.arraylength, 1) := by decide +kernel
theorem dX3_init_43 : decode cX3_init 43 = .ok (.if_icmp .ge 22, 3) := by decide +kernel
theorem dX3_init_46 : decode cX3_init 46 = .ok (.aload_n 0, 1) := by decide +kernel
theorem dX3_init_47 : decode cX3_init 47 = .ok (.getfield 21, 3) := by decide +kernel
theorem dX3_init_50 : decode cX3_init 50 = .ok (.iload_n 1, 1) := by decide +kernel
theorem dX3_init_51 : decode cX3_init 51 = .ok (.new 19, 3) := by decide +kernel
theorem dX3_init_54 : decode cX3_init 54 = .ok (.dup, 1) := by decide +kernel
theorem dX3_init_55 : decode cX3_init 55 = .ok (.invokespecial 25, 3) := by decide +kernel
theorem dX3_init_58 : decode cX3_init 58 = .ok (.aastore, 1) := by decide +kernel
theorem dX3_init_59 : decode cX3_init 59 = .ok (.iinc 1 1, 3) := by decide +kernel
theorem dX3_init_62 : decode cX3_init 62 = .ok (.goto (-25), 3) := by decide +kernel
theorem dX3_init_65 : decode cX3_init 65 = .ok (.return_, 1) := by decide +kernel
set_option maxRecDepth 20000 in
theorem ggX3_area_X3_needPond : GoodIn wsX3_area wsX3_needPond := goodIn_ca (goodIn_r _ [13, 14, 15] (by decide +kernel) (by decide +kernel)) (goodIn_sub (fun _ h => List.mem_cons_of_mem _ (List.mem_append_right _ h)) (by decide +kernel))
set_option maxRecDepth 20000 in
theorem gX3_area_X3_needPond : GoodIn wsX3_area (wsV RX3 26 RX3 yX3_needPond wsX3_needPond) := goodIn_app (goodIn_of _ (by decide +kernel)) ggX3_area_X3_needPond
theorem dX3_area_0 : decode cX3_area 0 = .ok (.aload_n 0, 1) := by decide +kernel
theorem dX3_area_1 : decode cX3_area 1 = .ok (.iload_n 1, 1) := by decide +kernel
theorem dX3_area_2 : decode cX3_area 2 = .ok (.invokevirtual 26, 3) := by decide +kernel
theorem dX3_area_5 : decode cX3_area 5 = .ok (.iload_n 2, 1) := by decide +kernel
theorem dX3_area_6 : decode cX3_area 6 = .ok (.iconst 1, 1) := by decide +kernel
theorem dX3_area_7 : decode cX3_area 7 = .ok (.if_icmp .lt 9, 3) := by decide +kernel
theorem dX3_area_10 : decode cX3_area 10 = .ok (.iload_n 2, 1) := by decide +kernel
theorem dX3_area_11 : decode cX3_area 11 = .ok (.bipush 9, 2) := by decide +kernel
theorem dX3_area_13 : decode cX3_area 13 = .ok (.if_icmp .le 13, 3) := by decide +kernel
theorem dX3_area_16 : decode cX3_area 16 = .ok (.new 30, 3) := by decide +kernel
theorem dX3_area_19 : decode cX3_area 19 = .ok (.dup, 1) := by decide +kernel
theorem dX3_area_20 : decode cX3_area 20 = .ok (.ldc 32, 2) := by decide +kernel
theorem dX3_area_22 : decode cX3_area 22 = .ok (.invokespecial 34, 3) := by decide +kernel
theorem dX3_area_25 : decode cX3_area 25 = .ok (.athrow, 1) := by decide +kernel
theorem dX3_area_26 : decode cX3_area 26 = .ok (.aload_n 0, 1) := by decide +kernel
theorem dX3_area_27 : decode cX3_area 27 = .ok (.getfield 10, 3) := by decide +kernel
theorem dX3_area_30 : decode cX3_area 30 = .ok (.getfield 37, 3) := by decide +kernel
theorem dX3_area_33 : decode cX3_area 33 = .ok (.ifCond .le 13, 3) := by decide +kernel
theorem dX3_area_36 : decode cX3_area 36 = .ok (.new 41, 3) := by decide +kernel
theorem dX3_area_39 : decode cX3_area 39 = .ok (.dup, 1) := by decide +kernel
theorem dX3_area_40 : decode cX3_area 40 = .ok (.ldc 43, 2) := by decide +kernel
theorem dX3_area_42 : decode cX3_area 42 = .ok (.invokespecial 45, 3) := by decide +kernel
theorem dX3_area_45 : decode cX3_area 45 = .ok (.athrow, 1) := by decide +kernel
theorem dX3_area_46 : decode cX3_area 46 = .ok (.aload_n 0, 1) := by decide +kernel
theorem dX3_area_47 : decode cX3_area 47 = .ok (.getfield 10, 3) := by decide +kernel
theorem dX3_area_50 : decode cX3_area 50 = .ok (.getfield 46, 3) := by decide +kernel
theorem dX3_area_53 : decode cX3_area 53 = .ok (.iload_n 1, 1) := by decide +kernel
theorem dX3_area_54 : decode cX3_area 54 = .ok (.aaload, 1) := by decide +kernel
theorem dX3_area_55 : decode cX3_area 55 = .ok (.getfield 50, 3) := by decide +kernel
theorem dX3_area_58 : decode cX3_area 58 = .ok (.istore_n 3, 1) := by decide +kernel
theorem dX3_area_59 : decode cX3_area 59 = .ok (.aload_n 0, 1) := by decide +kernel
theorem dX3_area_60 : decode cX3_area 60 = .ok (.getfield 10, 3) := by decide +kernel
theorem dX3_area_63 : decode cX3_area 63 = .ok (.getfield 46, 3) := by decide +kernel
theorem dX3_area_66 : decode cX3_area 66 = .ok (.iload_n 1, 1) := by decide +kernel
theorem dX3_area_67 : decode cX3_area 67 = .ok (.aaload, 1) := by decide +kernel
theorem dX3_area_68 : decode cX3_area 68 = .ok (.iload_n 2, 1) := by decide +kernel
theorem dX3_area_69 : decode cX3_area 69 = .ok (.putfield 50, 3) := by decide +kernel
theorem dX3_area_72 : decode cX3_area 72 = .ok (.iload_n 3, 1) := by decide +kernel
theorem dX3_area_73 : decode cX3_area 73 = .ok (.ireturn, 1) := by decide +kernel
set_option maxRecDepth 20000 in
theorem ggX3_gate_X3_needPond : GoodIn wsX3_gate wsX3_needPond := goodIn_ca (goodIn_r _ [8, 9, 10] (by decide +kernel) (by decide +kernel)) (goodIn_sub (fun _ h => List.mem_cons_of_mem _ (List.mem_append_right _ h)) (by decide +kernel))
set_option maxRecDepth 20000 in
theorem gX3_gate_X3_needPond : GoodIn wsX3_gate (wsV RX3 26 RX3 yX3_needPond wsX3_needPond) := goodIn_app (goodIn_of _ (by decide +kernel)) ggX3_gate_X3_needPond
theorem dX3_gate_0 : decode cX3_gate 0 = .ok (.aload_n 0, 1) := by decide +kernel
theorem dX3_gate_1 : decode cX3_gate 1 = .ok (.iload_n 1, 1) := by decide +kernel
theorem dX3_gate_2 : decode cX3_gate 2 = .ok (.invokevirtual 26, 3) := by decide +kernel
theorem dX3_gate_5 : decode cX3_gate 5 = .ok (.aload_n 0, 1) := by decide +kernel
theorem dX3_gate_6 : decode cX3_gate 6 = .ok (.getfield 10, 3) := by decide +kernel
theorem dX3_gate_9 : decode cX3_gate 9 = .ok (.getfield 46, 3) := by decide +kernel
theorem dX3_gate_12 : decode cX3_gate 12 = .ok (.iload_n 1, 1) := by decide +kernel
theorem dX3_gate_13 : decode cX3_gate 13 = .ok (.aaload, 1) := by decide +kernel
theorem dX3_gate_14 : decode cX3_gate 14 = .ok (.getfield 55, 3) := by decide +kernel
theorem dX3_gate_17 : decode cX3_gate 17 = .ok (.istore_n 3, 1) := by decide +kernel
theorem dX3_gate_18 : decode cX3_gate 18 = .ok (.aload_n 0, 1) := by decide +kernel
theorem dX3_gate_19 : decode cX3_gate 19 = .ok (.getfield 10, 3) := by decide +kernel
theorem dX3_gate_22 : decode cX3_gate 22 = .ok (.getfield 46, 3) := by decide +kernel
theorem dX3_gate_25 : decode cX3_gate 25 = .ok (.iload_n 1, 1) := by decide +kernel
theorem dX3_gate_26 : decode cX3_gate 26 = .ok (.aaload, 1) := by decide +kernel
theorem dX3_gate_27 : decode cX3_gate 27 = .ok (.iload_n 2, 1) := by decide +kernel
theorem dX3_gate_28 : decode cX3_gate 28 = .ok (.putfield 55, 3) := by decide +kernel
theorem dX3_gate_31 : decode cX3_gate 31 = .ok (.iload_n 3, 1) := by decide +kernel
theorem dX3_gate_32 : decode cX3_gate 32 = .ok (.ireturn, 1) := by decide +kernel
set_option maxRecDepth 20000 in
theorem ggX3_pass_X3_needWeather : GoodIn wsX3_pass wsX3_needWeather := goodIn_ca (goodIn_r _ [11, 1, 2] (by decide +kernel) (by decide +kernel)) (goodIn_sub (fun _ h => List.mem_cons_of_mem _ (List.mem_append_left _ (List.mem_append_right _ h))) (by decide +kernel))
set_option maxRecDepth 20000 in
theorem gX3_pass_X3_needWeather : GoodIn wsX3_pass (wsV RX3 67 RX3 yX3_needWeather wsX3_needWeather) := goodIn_app (goodIn_of _ (by decide +kernel)) ggX3_pass_X3_needWeather
set_option maxRecDepth 20000 in
theorem ggX3_pass_X2_letDayGoBy : GoodIn wsX3_pass wsX2_letDayGoBy := goodIn_r _ [16, 17, 18, 19, 20, 21, 22, 23, 24, 15, 25, 26, 27, 28, 29, 10, 30, 31, 32, 33, 34, 35, 36, 37, 38, 39, 40, 41, 42, 43, 44, 45, 46, 47, 48, 49, 50, 51, 52, 53, 54, 55, 56, 57, 58, 59, 60, 61, 62, 63, 64, 65, 66, 67, 68, 69, 70, 71, 72, 73, 74, 75, 76, 77, 78, 79, 80, 81, 82, 83, 84, 85, 86, 87, 88, 89, 90, 91, 92, 93, 94, 95, 96, 97, 98, 99, 115, 116, 117, 118, 119, 120, 121, 122, 123, 124, 125, 126, 127, 128, 129, 130, 131] (by decide +kernel) (by decide +kernel)
set_option maxRecDepth 20000 in
theorem gX3_pass_X2_letDayGoBy : GoodIn wsX3_pass (wsV RX3 75 RX2 yX2_letDayGoBy wsX2_letDayGoBy) := goodIn_app (goodIn_of _ (by decide +kernel)) ggX3_pass_X2_letDayGoBy
set_option maxRecDepth 20000 in
theorem ggX3_pass_X2_saltFallenInPans : GoodIn wsX3_pass wsX2_saltFallenInPans := goodIn_r _ [103, 20, 104, 115, 116, 117, 118, 119, 120, 121, 122, 123, 124, 125, 126, 127, 128, 129, 130, 131] (by decide +kernel) (by decide +kernel)
set_option maxRecDepth 20000 in
theorem gX3_pass_X2_saltFallenInPans : GoodIn wsX3_pass (wsV RX3 79 RX2 yX2_saltFallenInPans wsX2_saltFallenInPans) := goodIn_app (goodIn_of _ (by decide +kernel)) ggX3_pass_X2_saltFallenInPans
theorem dX3_pass_0 : decode cX3_pass 0 = .ok (.iload_n 1, 1) := by decide +kernel
theorem dX3_pass_1 : decode cX3_pass 1 = .ok (.iconst 1, 1) := by decide +kernel
theorem dX3_pass_2 : decode cX3_pass 2 = .ok (.if_icmp .lt 9, 3) := by decide +kernel
theorem dX3_pass_5 : decode cX3_pass 5 = .ok (.iload_n 1, 1) := by decide +kernel
theorem dX3_pass_6 : decode cX3_pass 6 = .ok (.bipush 30, 2) := by decide +kernel
theorem dX3_pass_8 : decode cX3_pass 8 = .ok (.if_icmp .le 13, 3) := by decide +kernel
theorem dX3_pass_11 : decode cX3_pass 11 = .ok (.new 30, 3) := by decide +kernel
theorem dX3_pass_14 : decode cX3_pass 14 = .ok (.dup, 1) := by decide +kernel
theorem dX3_pass_15 : decode cX3_pass 15 = .ok (.ldc 65, 2) := by decide +kernel
theorem dX3_pass_17 : decode cX3_pass 17 = .ok (.invokespecial 34, 3) := by decide +kernel
theorem dX3_pass_20 : decode cX3_pass 20 = .ok (.athrow, 1) := by decide +kernel
theorem dX3_pass_21 : decode cX3_pass 21 = .ok (.aload_n 0, 1) := by decide +kernel
theorem dX3_pass_22 : decode cX3_pass 22 = .ok (.iload_n 2, 1) := by decide +kernel
theorem dX3_pass_23 : decode cX3_pass 23 = .ok (.iload_n 3, 1) := by decide +kernel
theorem dX3_pass_24 : decode cX3_pass 24 = .ok (.invokevirtual 67, 3) := by decide +kernel
theorem dX3_pass_27 : decode cX3_pass 27 = .ok (.iload 4, 2) := by decide +kernel
theorem dX3_pass_29 : decode cX3_pass 29 = .ok (.ifCond .lt 10, 3) := by decide +kernel
theorem dX3_pass_32 : decode cX3_pass 32 = .ok (.iload 4, 2) := by decide +kernel
theorem dX3_pass_34 : decode cX3_pass 34 = .ok (.bipush 40, 2) := by decide +kernel
theorem dX3_pass_36 : decode cX3_pass 36 = .ok (.if_icmp .le 13, 3) := by decide +kernel
theorem dX3_pass_39 : decode cX3_pass 39 = .ok (.new 30, 3) := by decide +kernel
theorem dX3_pass_42 : decode cX3_pass 42 = .ok (.dup, 1) := by decide +kernel
theorem dX3_pass_43 : decode cX3_pass 43 = .ok (.ldc 71, 2) := by decide +kernel
theorem dX3_pass_45 : decode cX3_pass 45 = .ok (.invokespecial 34, 3) := by decide +kernel
theorem dX3_pass_48 : decode cX3_pass 48 = .ok (.athrow, 1) := by decide +kernel
theorem dX3_pass_49 : decode cX3_pass 49 = .ok (.aload_n 0, 1) := by decide +kernel
theorem dX3_pass_50 : decode cX3_pass 50 = .ok (.getfield 10, 3) := by decide +kernel
theorem dX3_pass_53 : decode cX3_pass 53 = .ok (.getfield 37, 3) := by decide +kernel
theorem dX3_pass_56 : decode cX3_pass 56 = .ok (.iload_n 1, 1) := by decide +kernel
theorem dX3_pass_57 : decode cX3_pass 57 = .ok (.iadd, 1) := by decide +kernel
theorem dX3_pass_58 : decode cX3_pass 58 = .ok (.sipush 5000, 3) := by decide +kernel
theorem dX3_pass_61 : decode cX3_pass 61 = .ok (.if_icmp .le 13, 3) := by decide +kernel
theorem dX3_pass_64 : decode cX3_pass 64 = .ok (.new 41, 3) := by decide +kernel
theorem dX3_pass_67 : decode cX3_pass 67 = .ok (.dup, 1) := by decide +kernel
theorem dX3_pass_68 : decode cX3_pass 68 = .ok (.ldc 73, 2) := by decide +kernel
theorem dX3_pass_70 : decode cX3_pass 70 = .ok (.invokespecial 45, 3) := by decide +kernel
theorem dX3_pass_73 : decode cX3_pass 73 = .ok (.athrow, 1) := by decide +kernel
theorem dX3_pass_74 : decode cX3_pass 74 = .ok (.iconst 0, 1) := by decide +kernel
theorem dX3_pass_75 : decode cX3_pass 75 = .ok (.istore 5, 2) := by decide +kernel
theorem dX3_pass_77 : decode cX3_pass 77 = .ok (.iconst 0, 1) := by decide +kernel
theorem dX3_pass_78 : decode cX3_pass 78 = .ok (.istore 6, 2) := by decide +kernel
theorem dX3_pass_80 : decode cX3_pass 80 = .ok (.iload 6, 2) := by decide +kernel
theorem dX3_pass_82 : decode cX3_pass 82 = .ok (.iload_n 1, 1) := by decide +kernel
theorem dX3_pass_83 : decode cX3_pass 83 = .ok (.if_icmp .ge 32, 3) := by decide +kernel
theorem dX3_pass_86 : decode cX3_pass 86 = .ok (.aload_n 0, 1) := by decide +kernel
theorem dX3_pass_87 : decode cX3_pass 87 = .ok (.getfield 10, 3) := by decide +kernel
theorem dX3_pass_90 : decode cX3_pass 90 = .ok (.iload_n 2, 1) := by decide +kernel
theorem dX3_pass_91 : decode cX3_pass 91 = .ok (.iload_n 3, 1) := by decide +kernel
theorem dX3_pass_92 : decode cX3_pass 92 = .ok (.iload 4, 2) := by decide +kernel
theorem dX3_pass_94 : decode cX3_pass 94 = .ok (.invokevirtual 75, 3) := by decide +kernel
theorem dX3_pass_97 : decode cX3_pass 97 = .ok (.iload 5, 2) := by decide +kernel
theorem dX3_pass_99 : decode cX3_pass 99 = .ok (.aload_n 0, 1) := by decide +kernel
theorem dX3_pass_100 : decode cX3_pass 100 = .ok (.getfield 10, 3) := by decide +kernel
theorem dX3_pass_103 : decode cX3_pass 103 = .ok (.invokevirtual 79, 3) := by decide +kernel
theorem dX3_pass_106 : decode cX3_pass 106 = .ok (.iadd, 1) := by decide +kernel
theorem dX3_pass_107 : decode cX3_pass 107 = .ok (.istore 5, 2) := by decide +kernel
theorem dX3_pass_109 : decode cX3_pass 109 = .ok (.iinc 6 1, 3) := by decide +kernel
theorem dX3_pass_112 : decode cX3_pass 112 = .ok (.goto (-32), 3) := by decide +kernel
theorem dX3_pass_115 : decode cX3_pass 115 = .ok (.iload 5, 2) := by decide +kernel
theorem dX3_pass_117 : decode cX3_pass 117 = .ok (.ireturn, 1) := by decide +kernel
set_option maxRecDepth 20000 in
theorem ggX3_skim_X3_needPond : GoodIn wsX3_skim wsX3_needPond := goodIn_ca (goodIn_r _ [9, 10, 11] (by decide +kernel) (by decide +kernel)) (goodIn_sub (fun _ h => List.mem_cons_of_mem _ (List.mem_append_right _ h)) (by decide +kernel))
set_option maxRecDepth 20000 in
theorem gX3_skim_X3_needPond : GoodIn wsX3_skim (wsV RX3 26 RX3 yX3_needPond wsX3_needPond) := goodIn_app (goodIn_of _ (by decide +kernel)) ggX3_skim_X3_needPond
theorem dX3_skim_0 : decode cX3_skim 0 = .ok (.aload_n 0, 1) := by decide +kernel
theorem dX3_skim_1 : decode cX3_skim 1 = .ok (.iload_n 1, 1) := by decide +kernel
theorem dX3_skim_2 : decode cX3_skim 2 = .ok (.invokevirtual 26, 3) := by decide +kernel
theorem dX3_skim_5 : decode cX3_skim 5 = .ok (.aload_n 0, 1) := by decide +kernel
theorem dX3_skim_6 : decode cX3_skim 6 = .ok (.getfield 10, 3) := by decide +kernel
theorem dX3_skim_9 : decode cX3_skim 9 = .ok (.getfield 46, 3) := by decide +kernel
theorem dX3_skim_12 : decode cX3_skim 12 = .ok (.iload_n 1, 1) := by decide +kernel
theorem dX3_skim_13 : decode cX3_skim 13 = .ok (.aaload, 1) := by decide +kernel
theorem dX3_skim_14 : decode cX3_skim 14 = .ok (.getfield 83, 3) := by decide +kernel
theorem dX3_skim_17 : decode cX3_skim 17 = .ok (.istore_n 2, 1) := by decide +kernel
theorem dX3_skim_18 : decode cX3_skim 18 = .ok (.aload_n 0, 1) := by decide +kernel
theorem dX3_skim_19 : decode cX3_skim 19 = .ok (.getfield 10, 3) := by decide +kernel
theorem dX3_skim_22 : decode cX3_skim 22 = .ok (.getfield 46, 3) := by decide +kernel
theorem dX3_skim_25 : decode cX3_skim 25 = .ok (.iload_n 1, 1) := by decide +kernel
theorem dX3_skim_26 : decode cX3_skim 26 = .ok (.aaload, 1) := by decide +kernel
theorem dX3_skim_27 : decode cX3_skim 27 = .ok (.iconst 0, 1) := by decide +kernel
theorem dX3_skim_28 : decode cX3_skim 28 = .ok (.putfield 83, 3) := by decide +kernel
theorem dX3_skim_31 : decode cX3_skim 31 = .ok (.aload_n 0, 1) := by decide +kernel
theorem dX3_skim_32 : decode cX3_skim 32 = .ok (.dup, 1) := by decide +kernel
theorem dX3_skim_33 : decode cX3_skim 33 = .ok (.getfield 86, 3) := by decide +kernel
theorem dX3_skim_36 : decode cX3_skim 36 = .ok (.iload_n 2, 1) := by decide +kernel
theorem dX3_skim_37 : decode cX3_skim 37 = .ok (.iadd, 1) := by decide +kernel
theorem dX3_skim_38 : decode cX3_skim 38 = .ok (.putfield 86, 3) := by decide +kernel
theorem dX3_skim_41 : decode cX3_skim 41 = .ok (.iload_n 2, 1) := by decide +kernel
theorem dX3_skim_42 : decode cX3_skim 42 = .ok (.ireturn, 1) := by decide +kernel
theorem dX3_family_0 : decode cX3_family 0 = .ok (.aload_n 0, 1) := by decide +kernel
theorem dX3_family_1 : decode cX3_family 1 = .ok (.getfield 129, 3) := by decide +kernel
theorem dX3_family_4 : decode cX3_family 4 = .ok (.bipush 6, 2) := by decide +kernel
theorem dX3_family_6 : decode cX3_family 6 = .ok (.if_icmp .lt 13, 3) := by decide +kernel
theorem dX3_family_9 : decode cX3_family 9 = .ok (.new 41, 3) := by decide +kernel
theorem dX3_family_12 : decode cX3_family 12 = .ok (.dup, 1) := by decide +kernel
theorem dX3_family_13 : decode cX3_family 13 = .ok (.ldc 132, 2) := by decide +kernel
theorem dX3_family_15 : decode cX3_family 15 = .ok (.invokespecial 45, 3) := by decide +kernel
theorem dX3_family_18 : decode cX3_family 18 = .ok (.athrow, 1) := by decide +kernel
theorem dX3_family_19 : decode cX3_family 19 = .ok (.aload_n 0, 1) := by decide +kernel
theorem dX3_family_20 : decode cX3_family 20 = .ok (.dup, 1) := by decide +kernel
theorem dX3_family_21 : decode cX3_family 21 = .ok (.getfield 129, 3) := by decide +kernel
theorem dX3_family_24 : decode cX3_family 24 = .ok (.iconst 1, 1) := by decide +kernel
theorem dX3_family_25 : decode cX3_family 25 = .ok (.iadd, 1) := by decide +kernel
theorem dX3_family_26 : decode cX3_family 26 = .ok (.putfield 129, 3) := by decide +kernel
theorem dX3_family_29 : decode cX3_family 29 = .ok (.aload_n 0, 1) := by decide +kernel
theorem dX3_family_30 : decode cX3_family 30 = .ok (.getfield 129, 3) := by decide +kernel
theorem dX3_family_33 : decode cX3_family 33 = .ok (.iconst 1, 1) := by decide +kernel
theorem dX3_family_34 : decode cX3_family 34 = .ok (.isub, 1) := by decide +kernel
theorem dX3_family_35 : decode cX3_family 35 = .ok (.ireturn, 1) := by decide +kernel
set_option maxRecDepth 20000 in
theorem ggX3_right_X3_needFamily : GoodIn wsX3_right wsX3_needFamily := goodIn_ca (goodIn_r _ [11, 12, 13, 14, 23, 24, 25, 26, 27, 28, 29, 30, 31, 32] (by decide +kernel) (by decide +kernel)) (goodIn_sub (fun _ h => List.mem_cons_of_mem _ (List.mem_append_right _ h)) (by decide +kernel))
set_option maxRecDepth 20000 in
theorem gX3_right_X3_needFamily : GoodIn wsX3_right (wsV RX3 134 RX3 yX3_needFamily wsX3_needFamily) := goodIn_app (goodIn_of _ (by decide +kernel)) ggX3_right_X3_needFamily
set_option maxRecDepth 20000 in
theorem ggX3_right_X3_needPan : GoodIn wsX3_right wsX3_needPan := goodIn_ca (goodIn_r _ [18, 12, 13] (by decide +kernel) (by decide +kernel)) (goodIn_sub (fun _ h => List.mem_cons_of_mem _ (List.mem_append_right _ h)) (by decide +kernel))
set_option maxRecDepth 20000 in
theorem gX3_right_X3_needPan : GoodIn wsX3_right (wsV RX3 59 RX3 yX3_needPan wsX3_needPan) := goodIn_app (goodIn_of _ (by decide +kernel)) ggX3_right_X3_needPan
set_option maxRecDepth 20000 in
theorem ggX3_right_X3_rightsIn : GoodIn wsX3_right wsX3_rightsIn := goodIn_r _ [22, 14, 5, 6, 23, 24, 25, 26, 27, 28, 29, 30, 31, 32, 33, 34, 35, 36, 37, 38] (by decide +kernel) (by decide +kernel)
set_option maxRecDepth 20000 in
theorem gX3_right_X3_rightsIn : GoodIn wsX3_right (wsV RX3 143 RX3 yX3_rightsIn wsX3_rightsIn) := goodIn_app (goodIn_of _ (by decide +kernel)) ggX3_right_X3_rightsIn
theorem dX3_right_0 : decode cX3_right 0 = .ok (.aload_n 0, 1) := by decide +kernel
theorem dX3_right_1 : decode cX3_right 1 = .ok (.iload_n 1, 1) := by decide +kernel
theorem dX3_right_2 : decode cX3_right 2 = .ok (.invokevirtual 134, 3) := by decide +kernel
theorem dX3_right_5 : decode cX3_right 5 = .ok (.aload_n 0, 1) := by decide +kernel
theorem dX3_right_6 : decode cX3_right 6 = .ok (.iload_n 2, 1) := by decide +kernel
theorem dX3_right_7 : decode cX3_right 7 = .ok (.invokevirtual 59, 3) := by decide +kernel
theorem dX3_right_10 : decode cX3_right 10 = .ok (.iload_n 3, 1) := by decide +kernel
theorem dX3_right_11 : decode cX3_right 11 = .ok (.ifCond .lt 9, 3) := by decide +kernel
theorem dX3_right_14 : decode cX3_right 14 = .ok (.iload_n 3, 1) := by decide +kernel
theorem dX3_right_15 : decode cX3_right 15 = .ok (.bipush 12, 2) := by decide +kernel
theorem dX3_right_17 : decode cX3_right 17 = .ok (.if_icmp .le 13, 3) := by decide +kernel
theorem dX3_right_20 : decode cX3_right 20 = .ok (.new 30, 3) := by decide +kernel
theorem dX3_right_23 : decode cX3_right 23 = .ok (.dup, 1) := by decide +kernel
theorem dX3_right_24 : decode cX3_right 24 = .ok (.ldc 137, 2) := by decide +kernel
theorem dX3_right_26 : decode cX3_right 26 = .ok (.invokespecial 34, 3) := by decide +kernel
theorem dX3_right_29 : decode cX3_right 29 = .ok (.athrow, 1) := by decide +kernel
theorem dX3_right_30 : decode cX3_right 30 = .ok (.aload_n 0, 1) := by decide +kernel
theorem dX3_right_31 : decode cX3_right 31 = .ok (.getfield 21, 3) := by decide +kernel
theorem dX3_right_34 : decode cX3_right 34 = .ok (.iload_n 1, 1) := by decide +kernel
theorem dX3_right_35 : decode cX3_right 35 = .ok (.aaload, 1) := by decide +kernel
theorem dX3_right_36 : decode cX3_right 36 = .ok (.getfield 139, 3) := by decide +kernel
theorem dX3_right_39 : decode cX3_right 39 = .ok (.iload_n 2, 1) := by decide +kernel
theorem dX3_right_40 : decode cX3_right 40 = .ok (.iconst 5, 1) := by decide +kernel
theorem dX3_right_41 : decode cX3_right 41 = .ok (.isub, 1) := by decide +kernel
theorem dX3_right_42 : decode cX3_right 42 = .ok (.iaload, 1) := by decide +kernel
theorem dX3_right_43 : decode cX3_right 43 = .ok (.istore 4, 2) := by decide +kernel
theorem dX3_right_45 : decode cX3_right 45 = .ok (.aload_n 0, 1) := by decide +kernel
theorem dX3_right_46 : decode cX3_right 46 = .ok (.iload_n 2, 1) := by decide +kernel
theorem dX3_right_47 : decode cX3_right 47 = .ok (.invokevirtual 143, 3) := by decide +kernel
theorem dX3_right_50 : decode cX3_right 50 = .ok (.iload 4, 2) := by decide +kernel
theorem dX3_right_52 : decode cX3_right 52 = .ok (.isub, 1) := by decide +kernel
theorem dX3_right_53 : decode cX3_right 53 = .ok (.iload_n 3, 1) := by decide +kernel
theorem dX3_right_54 : decode cX3_right 54 = .ok (.iadd, 1) := by decide +kernel
theorem dX3_right_55 : decode cX3_right 55 = .ok (.bipush 12, 2) := by decide +kernel
theorem dX3_right_57 : decode cX3_right 57 = .ok (.if_icmp .le 13, 3) := by decide +kernel
theorem dX3_right_60 : decode cX3_right 60 = .ok (.new 41, 3) := by decide +kernel
theorem dX3_right_63 : decode cX3_right 63 = .ok (.dup, 1) := by decide +kernel
theorem dX3_right_64 : decode cX3_right 64 = .ok (.ldc 146, 2) := by decide +kernel
theorem dX3_right_66 : decode cX3_right 66 = .ok (.invokespecial 45, 3) := by decide +kernel
theorem dX3_right_69 : decode cX3_right 69 = .ok (.athrow, 1) := by decide +kernel
theorem dX3_right_70 : decode cX3_right 70 = .ok (.aload_n 0, 1) := by decide +kernel
theorem dX3_right_71 : decode cX3_right 71 = .ok (.getfield 21, 3) := by decide +kernel
theorem dX3_right_74 : decode cX3_right 74 = .ok (.iload_n 1, 1) := by decide +kernel
theorem dX3_right_75 : decode cX3_right 75 = .ok (.aaload, 1) := by decide +kernel
theorem dX3_right_76 : decode cX3_right 76 = .ok (.getfield 139, 3) := by decide +kernel
theorem dX3_right_79 : decode cX3_right 79 = .ok (.iload_n 2, 1) := by decide +kernel
theorem dX3_right_80 : decode cX3_right 80 = .ok (.iconst 5, 1) := by decide +kernel
theorem dX3_right_81 : decode cX3_right 81 = .ok (.isub, 1) := by decide +kernel
theorem dX3_right_82 : decode cX3_right 82 = .ok (.iload_n 3, 1) := by decide +kernel
theorem dX3_right_83 : decode cX3_right 83 = .ok (.iastore, 1) := by decide +kernel
theorem dX3_right_84 : decode cX3_right 84 = .ok (.iload 4, 2) := by decide +kernel
theorem dX3_right_86 : decode cX3_right 86 = .ok (.ireturn, 1) := by decide +kernel
set_option maxRecDepth 20000 in
theorem ggX3_harvest_X3_needPan : GoodIn wsX3_harvest wsX3_needPan := goodIn_ca (goodIn_r _ [13, 14, 15] (by decide +kernel) (by decide +kernel)) (goodIn_sub (fun _ h => List.mem_cons_of_mem _ (List.mem_append_right _ h)) (by decide +kernel))
set_option maxRecDepth 20000 in
theorem gX3_harvest_X3_needPan : GoodIn wsX3_harvest (wsV RX3 59 RX3 yX3_needPan wsX3_needPan) := goodIn_app (goodIn_of _ (by decide +kernel)) ggX3_harvest_X3_needPan
set_option maxRecDepth 20000 in
theorem ggX3_harvest_X1_canBeHarvested : GoodIn wsX3_harvest wsX1_canBeHarvested := goodIn_r _ [20, 21, 22, 80, 81, 82, 83, 84, 85, 86, 87, 88, 89, 90, 91] (by decide +kernel) (by decide +kernel)
set_option maxRecDepth 20000 in
theorem gX3_harvest_X1_canBeHarvested : GoodIn wsX3_harvest (wsV RX3 148 RX1 yX1_canBeHarvested wsX1_canBeHarvested) := goodIn_app (goodIn_of _ (by decide +kernel)) ggX3_harvest_X1_canBeHarvested
set_option maxRecDepth 20000 in
theorem ggX3_harvest_X1_saltOfHarvest : GoodIn wsX3_harvest wsX1_saltOfHarvest := goodIn_r _ [26, 21, 27, 28, 29, 30, 31, 80, 81, 82, 83, 84, 85, 86, 87, 88, 89, 90, 91] (by decide +kernel) (by decide +kernel)
set_option maxRecDepth 20000 in
theorem gX3_harvest_X1_saltOfHarvest : GoodIn wsX3_harvest (wsV RX3 154 RX1 yX1_saltOfHarvest wsX1_saltOfHarvest) := goodIn_app (goodIn_of _ (by decide +kernel)) ggX3_harvest_X1_saltOfHarvest
set_option maxRecDepth 20000 in
theorem ggX3_harvest_X1_dirtOfCrustWith : GoodIn wsX3_harvest wsX1_dirtOfCrustWith := goodIn_r _ [35, 36, 21, 37, 12, 38, 80, 81, 82, 83, 84, 85, 86, 87, 88, 89, 90, 91] (by decide +kernel) (by decide +kernel)
set_option maxRecDepth 20000 in
theorem gX3_harvest_X1_dirtOfCrustWith : GoodIn wsX3_harvest (wsV RX3 158 RX1 yX1_dirtOfCrustWith wsX1_dirtOfCrustWith) := goodIn_app (goodIn_of _ (by decide +kernel)) ggX3_harvest_X1_dirtOfCrustWith
set_option maxRecDepth 20000 in
theorem ggX3_harvest_X1_dirtOfFloor : GoodIn wsX3_harvest wsX1_dirtOfFloor := goodIn_r _ [42, 27, 80, 81, 82, 83, 84, 85, 86, 87, 88, 89, 90, 91] (by decide +kernel) (by decide +kernel)
set_option maxRecDepth 20000 in
theorem gX3_harvest_X1_dirtOfFloor : GoodIn wsX3_harvest (wsV RX3 161 RX1 yX1_dirtOfFloor wsX1_dirtOfFloor) := goodIn_app (goodIn_of _ (by decide +kernel)) ggX3_harvest_X1_dirtOfFloor
set_option maxRecDepth 20000 in
theorem ggX3_harvest_X3_crownsPart : GoodIn wsX3_harvest wsX3_crownsPart := goodIn_r _ [45] (by decide +kernel) (by decide +kernel)
set_option maxRecDepth 20000 in
theorem gX3_harvest_X3_crownsPart : GoodIn wsX3_harvest (va_wsS RX3 176 yX3_crownsPart wsX3_crownsPart) := goodIn_app (goodIn_of _ (by decide +kernel)) ggX3_harvest_X3_crownsPart
set_option maxRecDepth 20000 in
theorem ggX3_harvest_X3_shareOut : GoodIn wsX3_harvest wsX3_shareOut := goodIn_r _ [49, 50, 51, 52, 53, 54, 55, 56, 37, 12, 38, 57, 58, 59, 60, 61, 62, 63, 64, 65, 66, 67, 68, 69, 70, 71, 72, 73, 74, 92, 93, 94, 95, 96, 97] (by decide +kernel) (by decide +kernel)
set_option maxRecDepth 20000 in
theorem gX3_harvest_X3_shareOut : GoodIn wsX3_harvest (wsV RX3 179 RX3 yX3_shareOut wsX3_shareOut) := goodIn_app (goodIn_of _ (by decide +kernel)) ggX3_harvest_X3_shareOut
theorem dX3_harvest_0 : decode cX3_harvest 0 = .ok (.aload_n 0, 1) := by decide +kernel
theorem dX3_harvest_1 : decode cX3_harvest 1 = .ok (.iload_n 1, 1) := by decide +kernel
theorem dX3_harvest_2 : decode cX3_harvest 2 = .ok (.invokevirtual 59, 3) := by decide +kernel
theorem dX3_harvest_5 : decode cX3_harvest 5 = .ok (.aload_n 0, 1) := by decide +kernel
theorem dX3_harvest_6 : decode cX3_harvest 6 = .ok (.getfield 10, 3) := by decide +kernel
theorem dX3_harvest_9 : decode cX3_harvest 9 = .ok (.getfield 46, 3) := by decide +kernel
theorem dX3_harvest_12 : decode cX3_harvest 12 = .ok (.iload_n 1, 1) := by decide +kernel
theorem dX3_harvest_13 : decode cX3_harvest 13 = .ok (.aaload, 1) := by decide +kernel
theorem dX3_harvest_14 : decode cX3_harvest 14 = .ok (.astore_n 3, 1) := by decide +kernel
theorem dX3_harvest_15 : decode cX3_harvest 15 = .ok (.aload_n 3, 1) := by decide +kernel
theorem dX3_harvest_16 : decode cX3_harvest 16 = .ok (.invokevirtual 148, 3) := by decide +kernel
theorem dX3_harvest_19 : decode cX3_harvest 19 = .ok (.ifCond .ne 13, 3) := by decide +kernel
theorem dX3_harvest_22 : decode cX3_harvest 22 = .ok (.new 41, 3) := by decide +kernel
theorem dX3_harvest_25 : decode cX3_harvest 25 = .ok (.dup, 1) := by decide +kernel
theorem dX3_harvest_26 : decode cX3_harvest 26 = .ok (.ldc 152, 2) := by decide +kernel
theorem dX3_harvest_28 : decode cX3_harvest 28 = .ok (.invokespecial 45, 3) := by decide +kernel
theorem dX3_harvest_31 : decode cX3_harvest 31 = .ok (.athrow, 1) := by decide +kernel
theorem dX3_harvest_32 : decode cX3_harvest 32 = .ok (.aload_n 3, 1) := by decide +kernel
theorem dX3_harvest_33 : decode cX3_harvest 33 = .ok (.iload_n 2, 1) := by decide +kernel
theorem dX3_harvest_34 : decode cX3_harvest 34 = .ok (.invokevirtual 154, 3) := by decide +kernel
theorem dX3_harvest_37 : decode cX3_harvest 37 = .ok (.istore 4, 2) := by decide +kernel
theorem dX3_harvest_39 : decode cX3_harvest 39 = .ok (.aload_n 3, 1) := by decide +kernel
theorem dX3_harvest_40 : decode cX3_harvest 40 = .ok (.iload 4, 2) := by decide +kernel
theorem dX3_harvest_42 : decode cX3_harvest 42 = .ok (.invokevirtual 158, 3) := by decide +kernel
theorem dX3_harvest_45 : decode cX3_harvest 45 = .ok (.istore 5, 2) := by decide +kernel
theorem dX3_harvest_47 : decode cX3_harvest 47 = .ok (.iload 5, 2) := by decide +kernel
theorem dX3_harvest_49 : decode cX3_harvest 49 = .ok (.aload_n 3, 1) := by decide +kernel
theorem dX3_harvest_50 : decode cX3_harvest 50 = .ok (.iload_n 2, 1) := by decide +kernel
theorem dX3_harvest_51 : decode cX3_harvest 51 = .ok (.invokevirtual 161, 3) := by decide +kernel
theorem dX3_harvest_54 : decode cX3_harvest 54 = .ok (.iadd, 1) := by decide +kernel
theorem dX3_harvest_55 : decode cX3_harvest 55 = .ok (.istore 6, 2) := by decide +kernel
theorem dX3_harvest_57 : decode cX3_harvest 57 = .ok (.aload_n 3, 1) := by decide +kernel
theorem dX3_harvest_58 : decode cX3_harvest 58 = .ok (.dup, 1) := by decide +kernel
theorem dX3_harvest_59 : decode cX3_harvest 59 = .ok (.getfield 164, 3) := by decide +kernel
theorem dX3_harvest_62 : decode cX3_harvest 62 = .ok (.iload 4, 2) := by decide +kernel
theorem dX3_harvest_64 : decode cX3_harvest 64 = .ok (.isub, 1) := by decide +kernel
theorem dX3_harvest_65 : decode cX3_harvest 65 = .ok (.putfield 164, 3) := by decide +kernel
theorem dX3_harvest_68 : decode cX3_harvest 68 = .ok (.aload_n 3, 1) := by decide +kernel
theorem dX3_harvest_69 : decode cX3_harvest 69 = .ok (.dup, 1) := by decide +kernel
theorem dX3_harvest_70 : decode cX3_harvest 70 = .ok (.getfield 167, 3) := by decide +kernel
theorem dX3_harvest_73 : decode cX3_harvest 73 = .ok (.iload 5, 2) := by decide +kernel
theorem dX3_harvest_75 : decode cX3_harvest 75 = .ok (.isub, 1) := by decide +kernel
theorem dX3_harvest_76 : decode cX3_harvest 76 = .ok (.putfield 167, 3) := by decide +kernel
theorem dX3_harvest_79 : decode cX3_harvest 79 = .ok (.aload_n 3, 1) := by decide +kernel
theorem dX3_harvest_80 : decode cX3_harvest 80 = .ok (.iconst 1, 1) := by decide +kernel
theorem dX3_harvest_81 : decode cX3_harvest 81 = .ok (.putfield 170, 3) := by decide +kernel
theorem dX3_harvest_84 : decode cX3_harvest 84 = .ok (.aload_n 0, 1) := by decide +kernel
theorem dX3_harvest_85 : decode cX3_harvest 85 = .ok (.dup, 1) := by decide +kernel
theorem dX3_harvest_86 : decode cX3_harvest 86 = .ok (.getfield 173, 3) := by decide +kernel
theorem dX3_harvest_89 : decode cX3_harvest 89 = .ok (.iload 4, 2) := by decide +kernel
theorem dX3_harvest_91 : decode cX3_harvest 91 = .ok (.invokestatic 176, 3) := by decide +kernel
theorem dX3_harvest_94 : decode cX3_harvest 94 = .ok (.iadd, 1) := by decide +kernel
theorem dX3_harvest_95 : decode cX3_harvest 95 = .ok (.putfield 173, 3) := by decide +kernel
theorem dX3_harvest_98 : decode cX3_harvest 98 = .ok (.aload_n 0, 1) := by decide +kernel
theorem dX3_harvest_99 : decode cX3_harvest 99 = .ok (.iload_n 1, 1) := by decide +kernel
theorem dX3_harvest_100 : decode cX3_harvest 100 = .ok (.iload 4, 2) := by decide +kernel
theorem dX3_harvest_102 : decode cX3_harvest 102 = .ok (.iload 4, 2) := by decide +kernel
theorem dX3_harvest_104 : decode cX3_harvest 104 = .ok (.invokestatic 176, 3) := by decide +kernel
theorem dX3_harvest_107 : decode cX3_harvest 107 = .ok (.isub, 1) := by decide +kernel
theorem dX3_harvest_108 : decode cX3_harvest 108 = .ok (.iload 6, 2) := by decide +kernel
theorem dX3_harvest_110 : decode cX3_harvest 110 = .ok (.invokevirtual 179, 3) := by decide +kernel
theorem dX3_harvest_113 : decode cX3_harvest 113 = .ok (.iload 4, 2) := by decide +kernel
theorem dX3_harvest_115 : decode cX3_harvest 115 = .ok (.ireturn, 1) := by decide +kernel
set_option maxRecDepth 20000 in
theorem ggX3_wash_X3_needFamily : GoodIn wsX3_wash wsX3_needFamily := goodIn_ca (goodIn_r _ [11, 12, 13, 14, 25, 26, 27, 28, 29, 30, 31, 32, 33, 34] (by decide +kernel) (by decide +kernel)) (goodIn_sub (fun _ h => List.mem_cons_of_mem _ (List.mem_append_right _ h)) (by decide +kernel))
set_option maxRecDepth 20000 in
theorem gX3_wash_X3_needFamily : GoodIn wsX3_wash (wsV RX3 134 RX3 yX3_needFamily wsX3_needFamily) := goodIn_app (goodIn_of _ (by decide +kernel)) ggX3_wash_X3_needFamily
set_option maxRecDepth 20000 in
theorem ggX3_wash_X3_roundedUp : GoodIn wsX3_wash wsX3_roundedUp := goodIn_r _ [17] (by decide +kernel) (by decide +kernel)
set_option maxRecDepth 20000 in
theorem gX3_wash_X3_roundedUp : GoodIn wsX3_wash (va_wsS RX3 122 yX3_roundedUp wsX3_roundedUp) := goodIn_app (goodIn_of _ (by decide +kernel)) ggX3_wash_X3_roundedUp
set_option maxRecDepth 20000 in
theorem ggX3_wash_X3_purity : GoodIn wsX3_wash wsX3_purity := goodIn_r _ [20, 21, 22, 23, 10, 24] (by decide +kernel) (by decide +kernel)
set_option maxRecDepth 20000 in
theorem gX3_wash_X3_purity : GoodIn wsX3_wash (va_wsS RX3 203 yX3_purity wsX3_purity) := goodIn_app (goodIn_of _ (by decide +kernel)) ggX3_wash_X3_purity
theorem dX3_wash_0 : decode cX3_wash 0 = .ok (.aload_n 0, 1) := by decide +kernel
theorem dX3_wash_1 : decode cX3_wash 1 = .ok (.iload_n 1, 1) := by decide +kernel
theorem dX3_wash_2 : decode cX3_wash 2 = .ok (.invokevirtual 134, 3) := by decide +kernel
theorem dX3_wash_5 : decode cX3_wash 5 = .ok (.aload_n 0, 1) := by decide +kernel
theorem dX3_wash_6 : decode cX3_wash 6 = .ok (.getfield 21, 3) := by decide +kernel
theorem dX3_wash_9 : decode cX3_wash 9 = .ok (.iload_n 1, 1) := by decide +kernel
theorem dX3_wash_10 : decode cX3_wash 10 = .ok (.aaload, 1) := by decide +kernel
theorem dX3_wash_11 : decode cX3_wash 11 = .ok (.astore_n 2, 1) := by decide +kernel
theorem dX3_wash_12 : decode cX3_wash 12 = .ok (.aload_n 2, 1) := by decide +kernel
theorem dX3_wash_13 : decode cX3_wash 13 = .ok (.getfield 197, 3) := by decide +kernel
theorem dX3_wash_16 : decode cX3_wash 16 = .ok (.iconst 1, 1) := by decide +kernel
theorem dX3_wash_17 : decode cX3_wash 17 = .ok (.if_icmp .ge 13, 3) := by decide +kernel
theorem dX3_wash_20 : decode cX3_wash 20 = .ok (.new 41, 3) := by decide +kernel
theorem dX3_wash_23 : decode cX3_wash 23 = .ok (.dup, 1) := by decide +kernel
theorem dX3_wash_24 : decode cX3_wash 24 = .ok (.ldc 198, 2) := by decide +kernel
theorem dX3_wash_26 : decode cX3_wash 26 = .ok (.invokespecial 45, 3) := by decide +kernel
theorem dX3_wash_29 : decode cX3_wash 29 = .ok (.athrow, 1) := by decide +kernel
theorem dX3_wash_30 : decode cX3_wash 30 = .ok (.aload_n 2, 1) := by decide +kernel
theorem dX3_wash_31 : decode cX3_wash 31 = .ok (.getfield 197, 3) := by decide +kernel
theorem dX3_wash_34 : decode cX3_wash 34 = .ok (.bipush 20, 2) := by decide +kernel
theorem dX3_wash_36 : decode cX3_wash 36 = .ok (.invokestatic 122, 3) := by decide +kernel
theorem dX3_wash_39 : decode cX3_wash 39 = .ok (.istore_n 3, 1) := by decide +kernel
theorem dX3_wash_40 : decode cX3_wash 40 = .ok (.aload_n 2, 1) := by decide +kernel
theorem dX3_wash_41 : decode cX3_wash 41 = .ok (.dup, 1) := by decide +kernel
theorem dX3_wash_42 : decode cX3_wash 42 = .ok (.getfield 200, 3) := by decide +kernel
theorem dX3_wash_45 : decode cX3_wash 45 = .ok (.aload_n 2, 1) := by decide +kernel
theorem dX3_wash_46 : decode cX3_wash 46 = .ok (.getfield 200, 3) := by decide +kernel
theorem dX3_wash_49 : decode cX3_wash 49 = .ok (.iconst 2, 1) := by decide +kernel
theorem dX3_wash_50 : decode cX3_wash 50 = .ok (.invokestatic 122, 3) := by decide +kernel
theorem dX3_wash_53 : decode cX3_wash 53 = .ok (.isub, 1) := by decide +kernel
theorem dX3_wash_54 : decode cX3_wash 54 = .ok (.putfield 200, 3) := by decide +kernel
theorem dX3_wash_57 : decode cX3_wash 57 = .ok (.aload_n 2, 1) := by decide +kernel
theorem dX3_wash_58 : decode cX3_wash 58 = .ok (.dup, 1) := by decide +kernel
theorem dX3_wash_59 : decode cX3_wash 59 = .ok (.getfield 197, 3) := by decide +kernel
theorem dX3_wash_62 : decode cX3_wash 62 = .ok (.iload_n 3, 1) := by decide +kernel
theorem dX3_wash_63 : decode cX3_wash 63 = .ok (.isub, 1) := by decide +kernel
theorem dX3_wash_64 : decode cX3_wash 64 = .ok (.putfield 197, 3) := by decide +kernel
theorem dX3_wash_67 : decode cX3_wash 67 = .ok (.aload_n 0, 1) := by decide +kernel
theorem dX3_wash_68 : decode cX3_wash 68 = .ok (.dup, 1) := by decide +kernel
theorem dX3_wash_69 : decode cX3_wash 69 = .ok (.getfield 100, 3) := by decide +kernel
theorem dX3_wash_72 : decode cX3_wash 72 = .ok (.iload_n 3, 1) := by decide +kernel
theorem dX3_wash_73 : decode cX3_wash 73 = .ok (.iadd, 1) := by decide +kernel
theorem dX3_wash_74 : decode cX3_wash 74 = .ok (.putfield 100, 3) := by decide +kernel
theorem dX3_wash_77 : decode cX3_wash 77 = .ok (.aload_n 2, 1) := by decide +kernel
theorem dX3_wash_78 : decode cX3_wash 78 = .ok (.getfield 197, 3) := by decide +kernel
theorem dX3_wash_81 : decode cX3_wash 81 = .ok (.aload_n 2, 1) := by decide +kernel
theorem dX3_wash_82 : decode cX3_wash 82 = .ok (.getfield 200, 3) := by decide +kernel
theorem dX3_wash_85 : decode cX3_wash 85 = .ok (.invokestatic 203, 3) := by decide +kernel
theorem dX3_wash_88 : decode cX3_wash 88 = .ok (.ireturn, 1) := by decide +kernel
set_option maxRecDepth 20000 in
theorem ggX3_ofPond_X3_needPond : GoodIn wsX3_ofPond wsX3_needPond := goodIn_ca (goodIn_r _ [9, 10, 11] (by decide +kernel) (by decide +kernel)) (goodIn_sub (fun _ h => List.mem_cons_of_mem _ (List.mem_append_right _ h)) (by decide +kernel))
set_option maxRecDepth 20000 in
theorem gX3_ofPond_X3_needPond : GoodIn wsX3_ofPond (wsV RX3 26 RX3 yX3_needPond wsX3_needPond) := goodIn_app (goodIn_of _ (by decide +kernel)) ggX3_ofPond_X3_needPond
set_option maxRecDepth 20000 in
theorem ggX3_ofPond_X1_read : GoodIn wsX3_ofPond wsX1_read := goodIn_r _ [16, 17, 18, 19, 20, 21, 22, 23, 24, 25, 26, 27, 28, 15, 29, 30, 8, 31, 32, 33, 34, 35, 36, 37, 38, 39, 40, 56, 57, 58, 59, 60, 61, 62, 63, 64, 65, 66, 67] (by decide +kernel) (by decide +kernel)
set_option maxRecDepth 20000 in
theorem gX3_ofPond_X1_read : GoodIn wsX3_ofPond (wsV RX3 223 RX1 yX1_read wsX1_read) := goodIn_app (goodIn_of _ (by decide +kernel)) ggX3_ofPond_X1_read
theorem dX3_ofPond_0 : decode cX3_ofPond 0 = .ok (.aload_n 0, 1) := by decide +kernel
theorem dX3_ofPond_1 : decode cX3_ofPond 1 = .ok (.iload_n 1, 1) := by decide +kernel
theorem dX3_ofPond_2 : decode cX3_ofPond 2 = .ok (.invokevirtual 26, 3) := by decide +kernel
theorem dX3_ofPond_5 : decode cX3_ofPond 5 = .ok (.iload_n 2, 1) := by decide +kernel
theorem dX3_ofPond_6 : decode cX3_ofPond 6 = .ok (.ifCond .lt 9, 3) := by decide +kernel
theorem dX3_ofPond_9 : decode cX3_ofPond 9 = .ok (.iload_n 2, 1) := by decide +kernel
theorem dX3_ofPond_10 : decode cX3_ofPond 10 = .ok (.bipush 10, 2) := by decide +kernel
theorem dX3_ofPond_12 : decode cX3_ofPond 12 = .ok (.if_icmp .le 13, 3) := by decide +kernel
theorem dX3_ofPond_15 : decode cX3_ofPond 15 = .ok (.new 30, 3) := by decide +kernel
theorem dX3_ofPond_18 : decode cX3_ofPond 18 = .ok (.dup, 1) := by decide +kernel
theorem dX3_ofPond_19 : decode cX3_ofPond 19 = .ok (.ldc 221, 2) := by decide +kernel
theorem dX3_ofPond_21 : decode cX3_ofPond 21 = .ok (.invokespecial 34, 3) := by decide +kernel
theorem dX3_ofPond_24 : decode cX3_ofPond 24 = .ok (.athrow, 1) := by decide +kernel
theorem dX3_ofPond_25 : decode cX3_ofPond 25 = .ok (.aload_n 0, 1) := by decide +kernel
theorem dX3_ofPond_26 : decode cX3_ofPond 26 = .ok (.getfield 10, 3) := by decide +kernel
theorem dX3_ofPond_29 : decode cX3_ofPond 29 = .ok (.getfield 46, 3) := by decide +kernel
theorem dX3_ofPond_32 : decode cX3_ofPond 32 = .ok (.iload_n 1, 1) := by decide +kernel
theorem dX3_ofPond_33 : decode cX3_ofPond 33 = .ok (.aaload, 1) := by decide +kernel
theorem dX3_ofPond_34 : decode cX3_ofPond 34 = .ok (.iload_n 2, 1) := by decide +kernel
theorem dX3_ofPond_35 : decode cX3_ofPond 35 = .ok (.invokevirtual 223, 3) := by decide +kernel
theorem dX3_ofPond_38 : decode cX3_ofPond 38 = .ok (.ireturn, 1) := by decide +kernel
set_option maxRecDepth 20000 in
theorem ggX3_ofFamily_X3_needFamily : GoodIn wsX3_ofFamily wsX3_needFamily := goodIn_ca (goodIn_r _ [8, 9, 10, 11, 28, 29, 30, 31, 32, 33, 34, 35, 36, 37] (by decide +kernel) (by decide +kernel)) (goodIn_sub (fun _ h => List.mem_cons_of_mem _ (List.mem_append_right _ h)) (by decide +kernel))
set_option maxRecDepth 20000 in
theorem gX3_ofFamily_X3_needFamily : GoodIn wsX3_ofFamily (wsV RX3 134 RX3 yX3_needFamily wsX3_needFamily) := goodIn_app (goodIn_of _ (by decide +kernel)) ggX3_ofFamily_X3_needFamily
set_option maxRecDepth 20000 in
theorem ggX3_ofFamily_X0_read : GoodIn wsX3_ofFamily wsX0_read := goodIn_r _ [16, 17, 18, 19, 20, 21, 22, 7, 23, 24, 25, 26, 27, 38, 39, 40, 41, 42, 43] (by decide +kernel) (by decide +kernel)
set_option maxRecDepth 20000 in
theorem gX3_ofFamily_X0_read : GoodIn wsX3_ofFamily (wsV RX3 228 RX0 yX0_read wsX0_read) := goodIn_app (goodIn_of _ (by decide +kernel)) ggX3_ofFamily_X0_read
theorem dX3_ofFamily_0 : decode cX3_ofFamily 0 = .ok (.aload_n 0, 1) := by decide +kernel
theorem dX3_ofFamily_1 : decode cX3_ofFamily 1 = .ok (.iload_n 1, 1) := by decide +kernel
theorem dX3_ofFamily_2 : decode cX3_ofFamily 2 = .ok (.invokevirtual 134, 3) := by decide +kernel
theorem dX3_ofFamily_5 : decode cX3_ofFamily 5 = .ok (.iload_n 2, 1) := by decide +kernel
theorem dX3_ofFamily_6 : decode cX3_ofFamily 6 = .ok (.ifCond .lt 8, 3) := by decide +kernel
theorem dX3_ofFamily_9 : decode cX3_ofFamily 9 = .ok (.iload_n 2, 1) := by decide +kernel
theorem dX3_ofFamily_10 : decode cX3_ofFamily 10 = .ok (.iconst 5, 1) := by decide +kernel
theorem dX3_ofFamily_11 : decode cX3_ofFamily 11 = .ok (.if_icmp .le 13, 3) := by decide +kernel
theorem dX3_ofFamily_14 : decode cX3_ofFamily 14 = .ok (.new 30, 3) := by decide +kernel
theorem dX3_ofFamily_17 : decode cX3_ofFamily 17 = .ok (.dup, 1) := by decide +kernel
theorem dX3_ofFamily_18 : decode cX3_ofFamily 18 = .ok (.ldc 226, 2) := by decide +kernel
theorem dX3_ofFamily_20 : decode cX3_ofFamily 20 = .ok (.invokespecial 34, 3) := by decide +kernel
theorem dX3_ofFamily_23 : decode cX3_ofFamily 23 = .ok (.athrow, 1) := by decide +kernel
theorem dX3_ofFamily_24 : decode cX3_ofFamily 24 = .ok (.aload_n 0, 1) := by decide +kernel
theorem dX3_ofFamily_25 : decode cX3_ofFamily 25 = .ok (.getfield 21, 3) := by decide +kernel
theorem dX3_ofFamily_28 : decode cX3_ofFamily 28 = .ok (.iload_n 1, 1) := by decide +kernel
theorem dX3_ofFamily_29 : decode cX3_ofFamily 29 = .ok (.aaload, 1) := by decide +kernel
theorem dX3_ofFamily_30 : decode cX3_ofFamily 30 = .ok (.iload_n 2, 1) := by decide +kernel
theorem dX3_ofFamily_31 : decode cX3_ofFamily 31 = .ok (.invokevirtual 228, 3) := by decide +kernel
theorem dX3_ofFamily_34 : decode cX3_ofFamily 34 = .ok (.ireturn, 1) := by decide +kernel
set_option maxRecDepth 20000 in
theorem ggX3_rightOf_X3_needFamily : GoodIn wsX3_rightOf wsX3_needFamily := goodIn_ca (goodIn_r _ [7, 8, 9, 10, 15, 16, 17, 18, 19, 20, 21, 22, 23, 24] (by decide +kernel) (by decide +kernel)) (goodIn_sub (fun _ h => List.mem_cons_of_mem _ (List.mem_append_right _ h)) (by decide +kernel))
set_option maxRecDepth 20000 in
theorem gX3_rightOf_X3_needFamily : GoodIn wsX3_rightOf (wsV RX3 134 RX3 yX3_needFamily wsX3_needFamily) := goodIn_app (goodIn_of _ (by decide +kernel)) ggX3_rightOf_X3_needFamily
set_option maxRecDepth 20000 in
theorem ggX3_rightOf_X3_needPan : GoodIn wsX3_rightOf wsX3_needPan := goodIn_ca (goodIn_r _ [14, 8, 9] (by decide +kernel) (by decide +kernel)) (goodIn_sub (fun _ h => List.mem_cons_of_mem _ (List.mem_append_right _ h)) (by decide +kernel))
set_option maxRecDepth 20000 in
theorem gX3_rightOf_X3_needPan : GoodIn wsX3_rightOf (wsV RX3 59 RX3 yX3_needPan wsX3_needPan) := goodIn_app (goodIn_of _ (by decide +kernel)) ggX3_rightOf_X3_needPan
theorem dX3_rightOf_0 : decode cX3_rightOf 0 = .ok (.aload_n 0, 1) := by decide +kernel
theorem dX3_rightOf_1 : decode cX3_rightOf 1 = .ok (.iload_n 1, 1) := by decide +kernel
theorem dX3_rightOf_2 : decode cX3_rightOf 2 = .ok (.invokevirtual 134, 3) := by decide +kernel
theorem dX3_rightOf_5 : decode cX3_rightOf 5 = .ok (.aload_n 0, 1) := by decide +kernel
theorem dX3_rightOf_6 : decode cX3_rightOf 6 = .ok (.iload_n 2, 1) := by decide +kernel
theorem dX3_rightOf_7 : decode cX3_rightOf 7 = .ok (.invokevirtual 59, 3) := by decide +kernel
theorem dX3_rightOf_10 : decode cX3_rightOf 10 = .ok (.aload_n 0, 1) := by decide +kernel
theorem dX3_rightOf_11 : decode cX3_rightOf 11 = .ok (.getfield 21, 3) := by decide +kernel
theorem dX3_rightOf_14 : decode cX3_rightOf 14 = .ok (.iload_n 1, 1) := by decide +kernel
theorem dX3_rightOf_15 : decode cX3_rightOf 15 = .ok (.aaload, 1) := by decide +kernel
theorem dX3_rightOf_16 : decode cX3_rightOf 16 = .ok (.getfield 139, 3) := by decide +kernel
theorem dX3_rightOf_19 : decode cX3_rightOf 19 = .ok (.iload_n 2, 1) := by decide +kernel
theorem dX3_rightOf_20 : decode cX3_rightOf 20 = .ok (.iconst 5, 1) := by decide +kernel
theorem dX3_rightOf_21 : decode cX3_rightOf 21 = .ok (.isub, 1) := by decide +kernel
theorem dX3_rightOf_22 : decode cX3_rightOf 22 = .ok (.iaload, 1) := by decide +kernel
theorem dX3_rightOf_23 : decode cX3_rightOf 23 = .ok (.ireturn, 1) := by decide +kernel
set_option maxRecDepth 20000 in
theorem ggX3_many_X2_openGates : GoodIn wsX3_many wsX2_openGates := goodIn_r _ [17, 18, 19, 88, 89, 90, 91, 92, 93, 94, 95, 96, 97, 98, 99, 100, 101, 102, 103, 104] (by decide +kernel) (by decide +kernel)
set_option maxRecDepth 20000 in
theorem gX3_many_X2_openGates : GoodIn wsX3_many (wsV RX3 231 RX2 yX2_openGates wsX2_openGates) := goodIn_app (goodIn_of _ (by decide +kernel)) ggX3_many_X2_openGates
set_option maxRecDepth 20000 in
theorem ggX3_many_X2_coveredPans : GoodIn wsX3_many wsX2_coveredPans := goodIn_r _ [23, 18, 24, 88, 89, 90, 91, 92, 93, 94, 95, 96, 97, 98, 99, 100, 101, 102, 103, 104] (by decide +kernel) (by decide +kernel)
set_option maxRecDepth 20000 in
theorem gX3_many_X2_coveredPans : GoodIn wsX3_many (wsV RX3 234 RX2 yX2_coveredPans wsX2_coveredPans) := goodIn_app (goodIn_of _ (by decide +kernel)) ggX3_many_X2_coveredPans
set_option maxRecDepth 20000 in
theorem ggX3_many_X2_sumOfPonds : GoodIn wsX3_many wsX2_sumOfPonds := goodIn_r _ [28, 18, 29, 30, 31, 32, 33, 34, 35, 36, 37, 38, 39, 40, 41, 42, 43, 44, 45, 46, 47, 48, 49, 50, 51, 52, 53, 54, 55, 56, 57, 58, 88, 89, 90, 91, 92, 93, 94, 95, 96, 97, 98, 99, 100, 101, 102, 103, 104] (by decide +kernel) (by decide +kernel)
set_option maxRecDepth 20000 in
theorem gX3_many_X2_sumOfPonds : GoodIn wsX3_many (wsV RX3 240 RX2 yX2_sumOfPonds wsX2_sumOfPonds) := goodIn_app (goodIn_of _ (by decide +kernel)) ggX3_many_X2_sumOfPonds
set_option maxRecDepth 20000 in
theorem ggX3_many_X3_sumOfFamilies : GoodIn wsX3_many wsX3_sumOfFamilies := goodIn_r _ [62, 5, 63, 64, 65, 66, 67, 68, 69, 70, 71, 72, 73, 74, 48, 75, 76, 77, 47, 49, 78, 79, 80, 81, 82, 83, 84, 85, 86, 87, 105, 106, 107, 108, 109, 110] (by decide +kernel) (by decide +kernel)
set_option maxRecDepth 20000 in
theorem gX3_many_X3_sumOfFamilies : GoodIn wsX3_many (wsV RX3 243 RX3 yX3_sumOfFamilies wsX3_sumOfFamilies) := goodIn_app (goodIn_of _ (by decide +kernel)) ggX3_many_X3_sumOfFamilies
theorem dX3_many_0 : decode cX3_many 0 = .ok (.iload_n 1, 1) := by decide +kernel
theorem dX3_many_1 : decode cX3_many 1 = .ok (.tableswitch 213 0 17 #[87, 95, 100, 108, 116, 124, 133, 143, 149, 155, 160, 165, 170, 180, 185, 194, 203, 208], 87) := by decide +kernel
theorem dX3_many_88 : decode cX3_many 88 = .ok (.aload_n 0, 1) := by decide +kernel
theorem dX3_many_89 : decode cX3_many 89 = .ok (.getfield 10, 3) := by decide +kernel
theorem dX3_many_92 : decode cX3_many 92 = .ok (.getfield 37, 3) := by decide +kernel
theorem dX3_many_95 : decode cX3_many 95 = .ok (.ireturn, 1) := by decide +kernel
theorem dX3_many_96 : decode cX3_many 96 = .ok (.aload_n 0, 1) := by decide +kernel
theorem dX3_many_97 : decode cX3_many 97 = .ok (.getfield 129, 3) := by decide +kernel
theorem dX3_many_100 : decode cX3_many 100 = .ok (.ireturn, 1) := by decide +kernel
theorem dX3_many_101 : decode cX3_many 101 = .ok (.aload_n 0, 1) := by decide +kernel
theorem dX3_many_102 : decode cX3_many 102 = .ok (.getfield 10, 3) := by decide +kernel
theorem dX3_many_105 : decode cX3_many 105 = .ok (.invokevirtual 231, 3) := by decide +kernel
theorem dX3_many_108 : decode cX3_many 108 = .ok (.ireturn, 1) := by decide +kernel
theorem dX3_many_109 : decode cX3_many 109 = .ok (.aload_n 0, 1) := by decide +kernel
theorem dX3_many_110 : decode cX3_many 110 = .ok (.getfield 10, 3) := by decide +kernel
theorem dX3_many_113 : decode cX3_many 113 = .ok (.invokevirtual 234, 3) := by decide +kernel
theorem dX3_many_116 : decode cX3_many 116 = .ok (.ireturn, 1) := by decide +kernel
theorem dX3_many_117 : decode cX3_many 117 = .ok (.aload_n 0, 1) := by decide +kernel
theorem dX3_many_118 : decode cX3_many 118 = .ok (.getfield 10, 3) := by decide +kernel
theorem dX3_many_121 : decode cX3_many 121 = .ok (.getfield 237, 3) := by decide +kernel
theorem dX3_many_124 : decode cX3_many 124 = .ok (.ireturn, 1) := by decide +kernel
theorem dX3_many_125 : decode cX3_many 125 = .ok (.aload_n 0, 1) := by decide +kernel
theorem dX3_many_126 : decode cX3_many 126 = .ok (.getfield 10, 3) := by decide +kernel
theorem dX3_many_129 : decode cX3_many 129 = .ok (.iconst 2, 1) := by decide +kernel
theorem dX3_many_130 : decode cX3_many 130 = .ok (.invokevirtual 240, 3) := by decide +kernel
theorem dX3_many_133 : decode cX3_many 133 = .ok (.ireturn, 1) := by decide +kernel
theorem dX3_many_134 : decode cX3_many 134 = .ok (.aload_n 0, 1) := by decide +kernel
theorem dX3_many_135 : decode cX3_many 135 = .ok (.getfield 10, 3) := by decide +kernel
theorem dX3_many_138 : decode cX3_many 138 = .ok (.bipush 6, 2) := by decide +kernel
theorem dX3_many_140 : decode cX3_many 140 = .ok (.invokevirtual 240, 3) := by decide +kernel
theorem dX3_many_143 : decode cX3_many 143 = .ok (.ireturn, 1) := by decide +kernel
theorem dX3_many_144 : decode cX3_many 144 = .ok (.aload_n 0, 1) := by decide +kernel
theorem dX3_many_145 : decode cX3_many 145 = .ok (.iconst 0, 1) := by decide +kernel
theorem dX3_many_146 : decode cX3_many 146 = .ok (.invokevirtual 243, 3) := by decide +kernel
theorem dX3_many_149 : decode cX3_many 149 = .ok (.ireturn, 1) := by decide +kernel
theorem dX3_many_150 : decode cX3_many 150 = .ok (.aload_n 0, 1) := by decide +kernel
theorem dX3_many_151 : decode cX3_many 151 = .ok (.iconst 5, 1) := by decide +kernel
theorem dX3_many_152 : decode cX3_many 152 = .ok (.invokevirtual 243, 3) := by decide +kernel
theorem dX3_many_155 : decode cX3_many 155 = .ok (.ireturn, 1) := by decide +kernel
theorem dX3_many_156 : decode cX3_many 156 = .ok (.aload_n 0, 1) := by decide +kernel
theorem dX3_many_157 : decode cX3_many 157 = .ok (.getfield 100, 3) := by decide +kernel
theorem dX3_many_160 : decode cX3_many 160 = .ok (.ireturn, 1) := by decide +kernel
theorem dX3_many_161 : decode cX3_many 161 = .ok (.aload_n 0, 1) := by decide +kernel
theorem dX3_many_162 : decode cX3_many 162 = .ok (.getfield 173, 3) := by decide +kernel
theorem dX3_many_165 : decode cX3_many 165 = .ok (.ireturn, 1) := by decide +kernel
theorem dX3_many_166 : decode cX3_many 166 = .ok (.aload_n 0, 1) := by decide +kernel
theorem dX3_many_167 : decode cX3_many 167 = .ok (.getfield 246, 3) := by decide +kernel
theorem dX3_many_170 : decode cX3_many 170 = .ok (.ireturn, 1) := by decide +kernel
theorem dX3_many_171 : decode cX3_many 171 = .ok (.aload_n 0, 1) := by decide +kernel
theorem dX3_many_172 : decode cX3_many 172 = .ok (.getfield 10, 3) := by decide +kernel
theorem dX3_many_175 : decode cX3_many 175 = .ok (.bipush 7, 2) := by decide +kernel
theorem dX3_many_177 : decode cX3_many 177 = .ok (.invokevirtual 240, 3) := by decide +kernel
theorem dX3_many_180 : decode cX3_many 180 = .ok (.ireturn, 1) := by decide +kernel
theorem dX3_many_181 : decode cX3_many 181 = .ok (.aload_n 0, 1) := by decide +kernel
theorem dX3_many_182 : decode cX3_many 182 = .ok (.getfield 249, 3) := by decide +kernel
theorem dX3_many_185 : decode cX3_many 185 = .ok (.ireturn, 1) := by decide +kernel
theorem dX3_many_186 : decode cX3_many 186 = .ok (.aload_n 0, 1) := by decide +kernel
theorem dX3_many_187 : decode cX3_many 187 = .ok (.getfield 10, 3) := by decide +kernel
theorem dX3_many_190 : decode cX3_many 190 = .ok (.iconst 1, 1) := by decide +kernel
theorem dX3_many_191 : decode cX3_many 191 = .ok (.invokevirtual 240, 3) := by decide +kernel
theorem dX3_many_194 : decode cX3_many 194 = .ok (.ireturn, 1) := by decide +kernel
theorem dX3_many_195 : decode cX3_many 195 = .ok (.aload_n 0, 1) := by decide +kernel
theorem dX3_many_196 : decode cX3_many 196 = .ok (.getfield 10, 3) := by decide +kernel
theorem dX3_many_199 : decode cX3_many 199 = .ok (.iconst 5, 1) := by decide +kernel
theorem dX3_many_200 : decode cX3_many 200 = .ok (.invokevirtual 240, 3) := by decide +kernel
theorem dX3_many_203 : decode cX3_many 203 = .ok (.ireturn, 1) := by decide +kernel
theorem dX3_many_204 : decode cX3_many 204 = .ok (.aload_n 0, 1) := by decide +kernel
theorem dX3_many_205 : decode cX3_many 205 = .ok (.getfield 86, 3) := by decide +kernel
theorem dX3_many_208 : decode cX3_many 208 = .ok (.ireturn, 1) := by decide +kernel
theorem dX3_many_209 : decode cX3_many 209 = .ok (.aload_n 0, 1) := by decide +kernel
theorem dX3_many_210 : decode cX3_many 210 = .ok (.getfield 119, 3) := by decide +kernel
theorem dX3_many_213 : decode cX3_many 213 = .ok (.ireturn, 1) := by decide +kernel
theorem dX3_many_214 : decode cX3_many 214 = .ok (.new 30, 3) := by decide +kernel
theorem dX3_many_217 : decode cX3_many 217 = .ok (.dup, 1) := by decide +kernel
theorem dX3_many_218 : decode cX3_many 218 = .ok (.ldc 252, 2) := by decide +kernel
theorem dX3_many_220 : decode cX3_many 220 = .ok (.invokespecial 34, 3) := by decide +kernel
theorem dX3_many_223 : decode cX3_many 223 = .ok (.athrow, 1) := by decide +kernel
set_option maxRecDepth 20000 in
theorem ggX3_crustIn_X3_needPan : GoodIn wsX3_crustIn wsX3_needPan := goodIn_ca (goodIn_r _ [9, 10, 11] (by decide +kernel) (by decide +kernel)) (goodIn_sub (fun _ h => List.mem_cons_of_mem _ (List.mem_append_left _ (List.mem_append_right _ h))) (by decide +kernel))
set_option maxRecDepth 20000 in
theorem gX3_crustIn_X3_needPan : GoodIn wsX3_crustIn (wsV RX3 59 RX3 yX3_needPan wsX3_needPan) := goodIn_app (goodIn_of _ (by decide +kernel)) ggX3_crustIn_X3_needPan
set_option maxRecDepth 20000 in
theorem ggX3_crustIn_X3_needWeather : GoodIn wsX3_crustIn wsX3_needWeather := goodIn_ca (goodIn_r _ [15, 16, 17] (by decide +kernel) (by decide +kernel)) (goodIn_sub (fun _ h => List.mem_cons_of_mem _ (List.mem_append_right _ h)) (by decide +kernel))
set_option maxRecDepth 20000 in
theorem gX3_crustIn_X3_needWeather : GoodIn wsX3_crustIn (wsV RX3 67 RX3 yX3_needWeather wsX3_needWeather) := goodIn_app (goodIn_of _ (by decide +kernel)) ggX3_crustIn_X3_needWeather
set_option maxRecDepth 20000 in
theorem ggX3_crustIn_X2_copyFrom : GoodIn wsX3_crustIn wsX2_copyFrom := goodIn_r _ [22, 23, 24, 25, 26, 27, 28, 29, 30, 31, 32, 33, 34, 35, 36, 37, 38, 39, 40, 41, 42, 43, 44, 126, 127, 128, 129, 130, 131, 132, 133, 134, 135, 136, 137, 138, 139, 140, 141, 142] (by decide +kernel) (by decide +kernel)
set_option maxRecDepth 20000 in
theorem gX3_crustIn_X2_copyFrom : GoodIn wsX3_crustIn (wsV RX3 254 RX2 yX2_copyFrom wsX2_copyFrom) := goodIn_app (goodIn_of _ (by decide +kernel)) ggX3_crustIn_X2_copyFrom
set_option maxRecDepth 20000 in
theorem ggX3_crustIn_X2_letDayGoBy : GoodIn wsX3_crustIn wsX2_letDayGoBy := goodIn_r _ [48, 23, 24, 25, 27, 49, 50, 51, 52, 21, 53, 54, 55, 26, 56, 8, 57, 58, 59, 60, 61, 62, 63, 64, 31, 65, 34, 33, 66, 67, 68, 69, 70, 71, 35, 36, 37, 72, 73, 74, 75, 76, 77, 78, 79, 80, 81, 82, 83, 84, 85, 86, 87, 88, 43, 38, 89, 90, 91, 92, 93, 94, 95, 96, 97, 98, 99, 100, 101, 102, 103, 104, 39, 105, 106, 107, 108, 41, 40, 109, 110, 111, 112, 113, 114, 115, 126, 127, 128, 129, 130, 131, 132, 133, 134, 135, 136, 137, 138, 139, 140, 141, 142] (by decide +kernel) (by decide +kernel)
set_option maxRecDepth 20000 in
theorem gX3_crustIn_X2_letDayGoBy : GoodIn wsX3_crustIn (wsV RX3 75 RX2 yX2_letDayGoBy wsX2_letDayGoBy) := goodIn_app (goodIn_of _ (by decide +kernel)) ggX3_crustIn_X2_letDayGoBy
theorem dX3_crustIn_0 : decode cX3_crustIn 0 = .ok (.aload_n 0, 1) := by decide +kernel
theorem dX3_crustIn_1 : decode cX3_crustIn 1 = .ok (.iload_n 1, 1) := by decide +kernel
theorem dX3_crustIn_2 : decode cX3_crustIn 2 = .ok (.invokevirtual 59, 3) := by decide +kernel
theorem dX3_crustIn_5 : decode cX3_crustIn 5 = .ok (.aload_n 0, 1) := by decide +kernel
theorem dX3_crustIn_6 : decode cX3_crustIn 6 = .ok (.iload_n 2, 1) := by decide +kernel
theorem dX3_crustIn_7 : decode cX3_crustIn 7 = .ok (.iload_n 3, 1) := by decide +kernel
theorem dX3_crustIn_8 : decode cX3_crustIn 8 = .ok (.invokevirtual 67, 3) := by decide +kernel
theorem dX3_crustIn_11 : decode cX3_crustIn 11 = .ok (.aload_n 0, 1) := by decide +kernel
theorem dX3_crustIn_12 : decode cX3_crustIn 12 = .ok (.getfield 16, 3) := by decide +kernel
theorem dX3_crustIn_15 : decode cX3_crustIn 15 = .ok (.aload_n 0, 1) := by decide +kernel
theorem dX3_crustIn_16 : decode cX3_crustIn 16 = .ok (.getfield 10, 3) := by decide +kernel
theorem dX3_crustIn_19 : decode cX3_crustIn 19 = .ok (.invokevirtual 254, 3) := by decide +kernel
theorem dX3_crustIn_22 : decode cX3_crustIn 22 = .ok (.iconst 1, 1) := by decide +kernel
theorem dX3_crustIn_23 : decode cX3_crustIn 23 = .ok (.istore 4, 2) := by decide +kernel
theorem dX3_crustIn_25 : decode cX3_crustIn 25 = .ok (.iload 4, 2) := by decide +kernel
theorem dX3_crustIn_27 : decode cX3_crustIn 27 = .ok (.bipush 60, 2) := by decide +kernel
theorem dX3_crustIn_29 : decode cX3_crustIn 29 = .ok (.if_icmp .gt 37, 3) := by decide +kernel
theorem dX3_crustIn_32 : decode cX3_crustIn 32 = .ok (.aload_n 0, 1) := by decide +kernel
theorem dX3_crustIn_33 : decode cX3_crustIn 33 = .ok (.getfield 16, 3) := by decide +kernel
theorem dX3_crustIn_36 : decode cX3_crustIn 36 = .ok (.iload_n 2, 1) := by decide +kernel
theorem dX3_crustIn_37 : decode cX3_crustIn 37 = .ok (.iload_n 3, 1) := by decide +kernel
theorem dX3_crustIn_38 : decode cX3_crustIn 38 = .ok (.iconst 0, 1) := by decide +kernel
theorem dX3_crustIn_39 : decode cX3_crustIn 39 = .ok (.invokevirtual 75, 3) := by decide +kernel
theorem dX3_crustIn_42 : decode cX3_crustIn 42 = .ok (.aload_n 0, 1) := by decide +kernel
theorem dX3_crustIn_43 : decode cX3_crustIn 43 = .ok (.getfield 16, 3) := by decide +kernel
theorem dX3_crustIn_46 : decode cX3_crustIn 46 = .ok (.getfield 46, 3) := by decide +kernel
theorem dX3_crustIn_49 : decode cX3_crustIn 49 = .ok (.iload_n 1, 1) := by decide +kernel
theorem dX3_crustIn_50 : decode cX3_crustIn 50 = .ok (.aaload, 1) := by decide +kernel
theorem dX3_crustIn_51 : decode cX3_crustIn 51 = .ok (.getfield 258, 3) := by decide +kernel
theorem dX3_crustIn_54 : decode cX3_crustIn 54 = .ok (.ifCond .le 6, 3) := by decide +kernel
theorem dX3_crustIn_57 : decode cX3_crustIn 57 = .ok (.iload 4, 2) := by decide +kernel
theorem dX3_crustIn_59 : decode cX3_crustIn 59 = .ok (.ireturn, 1) := by decide +kernel
theorem dX3_crustIn_60 : decode cX3_crustIn 60 = .ok (.iinc 4 1, 3) := by decide +kernel
theorem dX3_crustIn_63 : decode cX3_crustIn 63 = .ok (.goto (-38), 3) := by decide +kernel
theorem dX3_crustIn_66 : decode cX3_crustIn 66 = .ok (.iconst (-1), 1) := by decide +kernel
theorem dX3_crustIn_67 : decode cX3_crustIn 67 = .ok (.ireturn, 1) := by decide +kernel
set_option maxRecDepth 20000 in
theorem ggX3_bestGates_X3_needWeather : GoodIn wsX3_bestGates wsX3_needWeather := goodIn_ca (goodIn_r _ [7, 1, 2] (by decide +kernel) (by decide +kernel)) (goodIn_sub (fun _ h => List.mem_cons_of_mem _ (List.mem_append_right _ h)) (by decide +kernel))
set_option maxRecDepth 20000 in
theorem gX3_bestGates_X3_needWeather : GoodIn wsX3_bestGates (wsV RX3 67 RX3 yX3_needWeather wsX3_needWeather) := goodIn_app (goodIn_of _ (by decide +kernel)) ggX3_bestGates_X3_needWeather
set_option maxRecDepth 20000 in
theorem ggX3_bestGates_X3_saltInPansWith : GoodIn wsX3_bestGates wsX3_saltInPansWith := goodIn_r _ [11, 12, 13, 14, 15, 16, 17, 18, 19, 20, 21, 22, 23, 24, 25, 26, 27, 28, 29, 30, 31, 32, 33, 34, 35, 36, 37, 38, 39, 40, 41, 42, 43, 44, 45, 46, 47, 48, 49, 50, 51, 52, 53, 54, 55, 56, 6, 57, 58, 59, 60, 61, 62, 63, 64, 65, 66, 67, 68, 69, 70, 71, 72, 73, 74, 75, 76, 77, 78, 79, 80, 81, 82, 83, 84, 85, 86, 87, 88, 89, 90, 91, 92, 93, 94, 95, 96, 97, 98, 99, 100, 101, 102, 103, 104, 105, 106, 107, 108, 109, 110, 111, 112, 113, 114, 115, 116, 117, 118, 119, 120, 121, 122, 123, 124, 125, 126, 127, 128, 129, 130, 131, 132, 133, 134, 135, 136, 137, 138, 139, 140, 141, 142, 143, 144, 145, 146, 147, 148] (by decide +kernel) (by decide +kernel)
set_option maxRecDepth 20000 in
theorem gX3_bestGates_X3_saltInPansWith : GoodIn wsX3_bestGates (wsV RX3 263 RX3 yX3_saltInPansWith wsX3_saltInPansWith) := goodIn_app (goodIn_of _ (by decide +kernel)) ggX3_bestGates_X3_saltInPansWith
theorem dX3_bestGates_0 : decode cX3_bestGates 0 = .ok (.iload_n 1, 1) := by decide +kernel
theorem dX3_bestGates_1 : decode cX3_bestGates 1 = .ok (.iconst 1, 1) := by decide +kernel
theorem dX3_bestGates_2 : decode cX3_bestGates 2 = .ok (.if_icmp .lt 9, 3) := by decide +kernel
theorem dX3_bestGates_5 : decode cX3_bestGates 5 = .ok (.iload_n 1, 1) := by decide +kernel
theorem dX3_bestGates_6 : decode cX3_bestGates 6 = .ok (.bipush 9, 2) := by decide +kernel
theorem dX3_bestGates_8 : decode cX3_bestGates 8 = .ok (.if_icmp .le 14, 3) := by decide +kernel
theorem dX3_bestGates_11 : decode cX3_bestGates 11 = .ok (.new 30, 3) := by decide +kernel
theorem dX3_bestGates_14 : decode cX3_bestGates 14 = .ok (.dup, 1) := by decide +kernel
theorem dX3_bestGates_15 : decode cX3_bestGates 15 = .ok (.ldc_w 261, 3) := by decide +kernel
theorem dX3_bestGates_18 : decode cX3_bestGates 18 = .ok (.invokespecial 34, 3) := by decide +kernel
theorem dX3_bestGates_21 : decode cX3_bestGates 21 = .ok (.athrow, 1) := by decide +kernel
theorem dX3_bestGates_22 : decode cX3_bestGates 22 = .ok (.aload_n 0, 1) := by decide +kernel
theorem dX3_bestGates_23 : decode cX3_bestGates 23 = .ok (.iload_n 2, 1) := by decide +kernel
theorem dX3_bestGates_24 : decode cX3_bestGates 24 = .ok (.iload_n 3, 1) := by decide +kernel
theorem dX3_bestGates_25 : decode cX3_bestGates 25 = .ok (.invokevirtual 67, 3) := by decide +kernel
theorem dX3_bestGates_28 : decode cX3_bestGates 28 = .ok (.iconst 0, 1) := by decide +kernel
theorem dX3_bestGates_29 : decode cX3_bestGates 29 = .ok (.istore 4, 2) := by decide +kernel
theorem dX3_bestGates_31 : decode cX3_bestGates 31 = .ok (.iconst (-1), 1) := by decide +kernel
theorem dX3_bestGates_32 : decode cX3_bestGates 32 = .ok (.istore 5, 2) := by decide +kernel
theorem dX3_bestGates_34 : decode cX3_bestGates 34 = .ok (.iconst 0, 1) := by decide +kernel
theorem dX3_bestGates_35 : decode cX3_bestGates 35 = .ok (.istore 6, 2) := by decide +kernel
theorem dX3_bestGates_37 : decode cX3_bestGates 37 = .ok (.iload 6, 2) := by decide +kernel
theorem dX3_bestGates_39 : decode cX3_bestGates 39 = .ok (.sipush 256, 3) := by decide +kernel
theorem dX3_bestGates_42 : decode cX3_bestGates 42 = .ok (.if_icmp .ge 35, 3) := by decide +kernel
theorem dX3_bestGates_45 : decode cX3_bestGates 45 = .ok (.aload_n 0, 1) := by decide +kernel
theorem dX3_bestGates_46 : decode cX3_bestGates 46 = .ok (.iload 6, 2) := by decide +kernel
theorem dX3_bestGates_48 : decode cX3_bestGates 48 = .ok (.iload_n 1, 1) := by decide +kernel
theorem dX3_bestGates_49 : decode cX3_bestGates 49 = .ok (.iload_n 2, 1) := by decide +kernel
theorem dX3_bestGates_50 : decode cX3_bestGates 50 = .ok (.iload_n 3, 1) := by decide +kernel
theorem dX3_bestGates_51 : decode cX3_bestGates 51 = .ok (.invokevirtual 263, 3) := by decide +kernel
theorem dX3_bestGates_54 : decode cX3_bestGates 54 = .ok (.istore 7, 2) := by decide +kernel
theorem dX3_bestGates_56 : decode cX3_bestGates 56 = .ok (.iload 7, 2) := by decide +kernel
theorem dX3_bestGates_58 : decode cX3_bestGates 58 = .ok (.iload 5, 2) := by decide +kernel
theorem dX3_bestGates_60 : decode cX3_bestGates 60 = .ok (.if_icmp .le 11, 3) := by decide +kernel
theorem dX3_bestGates_63 : decode cX3_bestGates 63 = .ok (.iload 7, 2) := by decide +kernel
theorem dX3_bestGates_65 : decode cX3_bestGates 65 = .ok (.istore 5, 2) := by decide +kernel
theorem dX3_bestGates_67 : decode cX3_bestGates 67 = .ok (.iload 6, 2) := by decide +kernel
theorem dX3_bestGates_69 : decode cX3_bestGates 69 = .ok (.istore 4, 2) := by decide +kernel
theorem dX3_bestGates_71 : decode cX3_bestGates 71 = .ok (.iinc 6 1, 3) := by decide +kernel
theorem dX3_bestGates_74 : decode cX3_bestGates 74 = .ok (.goto (-37), 3) := by decide +kernel
theorem dX3_bestGates_77 : decode cX3_bestGates 77 = .ok (.iload 4, 2) := by decide +kernel
theorem dX3_bestGates_79 : decode cX3_bestGates 79 = .ok (.ireturn, 1) := by decide +kernel
set_option maxRecDepth 20000 in
theorem ggX3_tideOn_X3_tideAt : GoodIn wsX3_tideOn wsX3_tideAt := goodIn_r _ [8, 9, 10, 11, 12] (by decide +kernel) (by decide +kernel)
set_option maxRecDepth 20000 in
theorem gX3_tideOn_X3_tideAt : GoodIn wsX3_tideOn (va_wsS RX3 94 yX3_tideAt wsX3_tideAt) := goodIn_app (goodIn_of _ (by decide +kernel)) ggX3_tideOn_X3_tideAt
theorem dX3_tideOn_0 : decode cX3_tideOn 0 = .ok (.iload_n 1, 1) := by decide +kernel
theorem dX3_tideOn_1 : decode cX3_tideOn 1 = .ok (.ifCond .lt 9, 3) := by decide +kernel
theorem dX3_tideOn_4 : decode cX3_tideOn 4 = .ok (.iload_n 1, 1) := by decide +kernel
theorem dX3_tideOn_5 : decode cX3_tideOn 5 = .ok (.bipush 20, 2) := by decide +kernel
theorem dX3_tideOn_7 : decode cX3_tideOn 7 = .ok (.if_icmp .le 14, 3) := by decide +kernel
theorem dX3_tideOn_10 : decode cX3_tideOn 10 = .ok (.new 30, 3) := by decide +kernel
theorem dX3_tideOn_13 : decode cX3_tideOn 13 = .ok (.dup, 1) := by decide +kernel
theorem dX3_tideOn_14 : decode cX3_tideOn 14 = .ok (.ldc_w 269, 3) := by decide +kernel
theorem dX3_tideOn_17 : decode cX3_tideOn 17 = .ok (.invokespecial 34, 3) := by decide +kernel
theorem dX3_tideOn_20 : decode cX3_tideOn 20 = .ok (.athrow, 1) := by decide +kernel
theorem dX3_tideOn_21 : decode cX3_tideOn 21 = .ok (.iconst 0, 1) := by decide +kernel
theorem dX3_tideOn_22 : decode cX3_tideOn 22 = .ok (.istore_n 3, 1) := by decide +kernel
theorem dX3_tideOn_23 : decode cX3_tideOn 23 = .ok (.iload_n 3, 1) := by decide +kernel
theorem dX3_tideOn_24 : decode cX3_tideOn 24 = .ok (.bipush 14, 2) := by decide +kernel
theorem dX3_tideOn_26 : decode cX3_tideOn 26 = .ok (.if_icmp .ge 52, 3) := by decide +kernel
theorem dX3_tideOn_29 : decode cX3_tideOn 29 = .ok (.aload_n 0, 1) := by decide +kernel
theorem dX3_tideOn_30 : decode cX3_tideOn 30 = .ok (.getfield 10, 3) := by decide +kernel
theorem dX3_tideOn_33 : decode cX3_tideOn 33 = .ok (.getfield 37, 3) := by decide +kernel
theorem dX3_tideOn_36 : decode cX3_tideOn 36 = .ok (.iload_n 3, 1) := by decide +kernel
theorem dX3_tideOn_37 : decode cX3_tideOn 37 = .ok (.iadd, 1) := by decide +kernel
theorem dX3_tideOn_38 : decode cX3_tideOn 38 = .ok (.invokestatic 94, 3) := by decide +kernel
theorem dX3_tideOn_41 : decode cX3_tideOn 41 = .ok (.istore 4, 2) := by decide +kernel
theorem dX3_tideOn_43 : decode cX3_tideOn 43 = .ok (.iload_n 2, 1) := by decide +kernel
theorem dX3_tideOn_44 : decode cX3_tideOn 44 = .ok (.ifCond .eq 12, 3) := by decide +kernel
theorem dX3_tideOn_47 : decode cX3_tideOn 47 = .ok (.iload 4, 2) := by decide +kernel
theorem dX3_tideOn_49 : decode cX3_tideOn 49 = .ok (.iload_n 1, 1) := by decide +kernel
theorem dX3_tideOn_50 : decode cX3_tideOn 50 = .ok (.if_icmp .lt 22, 3) := by decide +kernel
theorem dX3_tideOn_53 : decode cX3_tideOn 53 = .ok (.goto 9, 3) := by decide +kernel
theorem dX3_tideOn_56 : decode cX3_tideOn 56 = .ok (.iload 4, 2) := by decide +kernel
theorem dX3_tideOn_58 : decode cX3_tideOn 58 = .ok (.iload_n 1, 1) := by decide +kernel
theorem dX3_tideOn_59 : decode cX3_tideOn 59 = .ok (.if_icmp .gt 13, 3) := by decide +kernel
theorem dX3_tideOn_62 : decode cX3_tideOn 62 = .ok (.aload_n 0, 1) := by decide +kernel
theorem dX3_tideOn_63 : decode cX3_tideOn 63 = .ok (.getfield 10, 3) := by decide +kernel
theorem dX3_tideOn_66 : decode cX3_tideOn 66 = .ok (.getfield 37, 3) := by decide +kernel
theorem dX3_tideOn_69 : decode cX3_tideOn 69 = .ok (.iload_n 3, 1) := by decide +kernel
theorem dX3_tideOn_70 : decode cX3_tideOn 70 = .ok (.iadd, 1) := by decide +kernel
theorem dX3_tideOn_71 : decode cX3_tideOn 71 = .ok (.ireturn, 1) := by decide +kernel
theorem dX3_tideOn_72 : decode cX3_tideOn 72 = .ok (.iinc 3 1, 3) := by decide +kernel
theorem dX3_tideOn_75 : decode cX3_tideOn 75 = .ok (.goto (-52), 3) := by decide +kernel
theorem dX3_tideOn_78 : decode cX3_tideOn 78 = .ok (.iconst (-1), 1) := by decide +kernel
theorem dX3_tideOn_79 : decode cX3_tideOn 79 = .ok (.ireturn, 1) := by decide +kernel
set_option maxRecDepth 20000 in
theorem ggX3_digest_X3_many : GoodIn wsX3_digest wsX3_many := goodIn_ca (goodIn_r _ [8, 9, 10, 11, 12, 3, 13, 14, 15, 16, 17, 18, 19, 20, 21, 22, 23, 24, 25, 26, 27, 28, 29, 30, 31, 32, 33, 34, 35, 36, 37, 38, 39, 40, 41, 42, 43, 44, 45, 46, 47, 48, 49, 50, 51, 52, 53, 54, 7, 55, 56, 57, 58, 59, 60, 61, 62, 63, 64, 65, 66, 67, 68, 69, 70, 71, 72, 73, 74, 75, 76, 77, 78, 79, 80, 81, 82, 83, 221, 222, 223, 224, 225, 226, 227, 228, 229, 230, 231, 232, 233, 234, 235, 236, 237, 238, 239, 240, 241, 242, 243, 244, 245, 246, 247, 248, 249, 250, 251, 252, 253] (by decide +kernel) (by decide +kernel)) (goodIn_sub (fun _ h => List.mem_cons_of_mem _ (List.mem_append_left _ (List.mem_append_right _ h))) (by decide +kernel))
set_option maxRecDepth 20000 in
theorem gX3_digest_X3_many : GoodIn wsX3_digest (wsV RX3 275 RX3 yX3_many wsX3_many) := goodIn_app (goodIn_of _ (by decide +kernel)) ggX3_digest_X3_many
set_option maxRecDepth 20000 in
theorem ggX3_digest_X3_ofPond : GoodIn wsX3_digest wsX3_ofPond := goodIn_ca (goodIn_ca (goodIn_r _ [87, 9, 10, 11, 88, 89, 90, 91, 7, 92, 93, 94, 95, 37, 38, 39, 40, 41, 42, 43, 44, 45, 46, 47, 48, 49, 50, 51, 52, 53, 54, 55, 56, 57, 58, 59, 60, 61, 62, 63, 64, 221, 222, 223, 224, 225, 226, 227, 228, 229, 230, 231, 232, 233, 234, 235, 236, 237, 238, 239, 240, 241, 242, 243, 244, 245, 246, 247] (by decide +kernel) (by decide +kernel)) (goodIn_sub (fun _ h => List.mem_cons_of_mem _ (List.mem_append_left _ (List.mem_append_right _ h))) (by decide +kernel))) (goodIn_sub (fun _ h => List.mem_cons_of_mem _ (List.mem_append_right _ h)) (by decide +kernel))
set_option maxRecDepth 20000 in
theorem gX3_digest_X3_ofPond : GoodIn wsX3_digest (wsV RX3 278 RX3 yX3_ofPond wsX3_ofPond) := goodIn_app (goodIn_of _ (by decide +kernel)) ggX3_digest_X3_ofPond
set_option maxRecDepth 20000 in
theorem ggX3_digest_X3_digestOfFamily : GoodIn wsX3_digest wsX3_digestOfFamily := goodIn_ca (goodIn_ca (goodIn_r _ [99, 2, 100, 101, 102, 7, 103, 9, 10, 69, 104, 105, 106, 107, 93, 94, 3, 70, 71, 72, 73, 74, 75, 76, 77, 78, 79, 80, 81, 82, 83, 54, 55, 108, 109, 110, 111, 112, 113, 114, 115, 116, 221, 222, 223, 224, 225, 226, 227, 228, 229, 230, 248, 249, 250, 251, 252, 253] (by decide +kernel) (by decide +kernel)) (goodIn_sub (fun _ h => List.mem_cons_of_mem _ (List.mem_append_left _ (List.mem_append_right _ h))) (by decide +kernel))) (goodIn_sub (fun _ h => List.mem_cons_of_mem _ (List.mem_append_right _ h)) (by decide +kernel))
set_option maxRecDepth 20000 in
theorem gX3_digest_X3_digestOfFamily : GoodIn wsX3_digest (wsV RX3 281 RX3 yX3_digestOfFamily wsX3_digestOfFamily) := goodIn_app (goodIn_of _ (by decide +kernel)) ggX3_digest_X3_digestOfFamily
set_option maxRecDepth 20000 in
theorem ggX3_digest_X3_crustIn : GoodIn wsX3_digest wsX3_crustIn := goodIn_ca (goodIn_ca (goodIn_r _ [120, 121, 11, 88, 122, 113, 114, 115, 7, 116, 93, 94, 123, 124, 125, 126, 9, 10, 127, 128, 129, 23, 130, 131, 132, 133, 134, 25, 135, 136, 137, 39, 138, 41, 42, 43, 44, 45, 46, 47, 48, 139, 140, 141, 49, 142, 143, 144, 145, 146, 147, 148, 149, 150, 26, 151, 152, 153, 154, 155, 63, 156, 157, 51, 52, 53, 54, 55, 158, 159, 160, 161, 162, 163, 164, 165, 166, 62, 64, 167, 168, 169, 170, 171, 172, 173, 174, 175, 176, 177, 178, 179, 180, 61, 56, 57, 58, 59, 60, 181, 182, 183, 184, 185, 186, 187, 188, 189, 190, 191, 192, 193, 194, 195, 196, 197, 221, 222, 223, 224, 225, 226, 227, 228, 229, 230, 231, 232, 233, 234, 235, 236, 237, 238, 239, 240, 241, 242, 243, 244, 245, 246, 247] (by decide +kernel) (by decide +kernel)) (goodIn_sub (fun _ h => List.mem_cons_of_mem _ (List.mem_append_right _ h)) (by decide +kernel))) (goodIn_sub (fun _ h => List.mem_cons_of_mem _ (List.mem_append_left _ (List.mem_append_right _ h))) (by decide +kernel))
set_option maxRecDepth 20000 in
theorem gX3_digest_X3_crustIn : GoodIn wsX3_digest (wsV RX3 285 RX3 yX3_crustIn wsX3_crustIn) := goodIn_app (goodIn_of _ (by decide +kernel)) ggX3_digest_X3_crustIn
set_option maxRecDepth 20000 in
theorem ggX3_digest_X3_bestGates : GoodIn wsX3_digest wsX3_bestGates := goodIn_ca (goodIn_r _ [201, 9, 10, 123, 124, 125, 7, 126, 202, 203, 204, 205, 121, 11, 127, 128, 129, 23, 130, 131, 132, 133, 134, 25, 135, 136, 137, 39, 138, 41, 42, 43, 44, 45, 46, 47, 48, 139, 140, 141, 49, 206, 207, 208, 209, 26, 142, 143, 144, 145, 146, 147, 148, 149, 150, 151, 152, 153, 154, 155, 63, 156, 157, 51, 52, 53, 54, 55, 158, 159, 160, 161, 162, 163, 164, 165, 166, 62, 64, 167, 168, 169, 170, 171, 172, 173, 174, 175, 176, 177, 178, 179, 180, 61, 56, 57, 58, 59, 60, 181, 182, 183, 184, 185, 186, 187, 188, 189, 190, 191, 192, 193, 194, 195, 196, 197, 210, 211, 212, 213, 214, 215, 221, 222, 223, 224, 225, 226, 227, 228, 229, 230, 231, 232, 233, 234, 235, 236, 237, 238, 239, 240, 241, 242, 243, 244, 245, 246, 247] (by decide +kernel) (by decide +kernel)) (goodIn_sub (fun _ h => List.mem_cons_of_mem _ (List.mem_append_left _ (List.mem_append_right _ h))) (by decide +kernel))
set_option maxRecDepth 20000 in
theorem gX3_digest_X3_bestGates : GoodIn wsX3_digest (wsV RX3 289 RX3 yX3_bestGates wsX3_bestGates) := goodIn_app (goodIn_of _ (by decide +kernel)) ggX3_digest_X3_bestGates
set_option maxRecDepth 20000 in
theorem ggX3_digest_X3_tideOn : GoodIn wsX3_digest wsX3_tideOn := goodIn_ca (goodIn_r _ [219, 9, 10, 11, 12, 220, 152, 7, 153, 154, 155, 63, 156, 221, 222, 223, 224, 225, 226, 227, 228, 229, 230, 231, 232, 233, 234, 235] (by decide +kernel) (by decide +kernel)) (goodIn_sub (fun _ h => List.mem_cons_of_mem _ (List.mem_append_left _ (List.mem_append_right _ h))) (by decide +kernel))
set_option maxRecDepth 20000 in
theorem gX3_digest_X3_tideOn : GoodIn wsX3_digest (wsV RX3 292 RX3 yX3_tideOn wsX3_tideOn) := goodIn_app (goodIn_of _ (by decide +kernel)) ggX3_digest_X3_tideOn
theorem dX3_digest_0 : decode cX3_digest 0 = .ok (.ldc2_w 271, 3) := by decide +kernel
theorem dX3_digest_3 : decode cX3_digest 3 = .ok (.lstore_n 1, 1) := by decide +kernel
theorem dX3_digest_4 : decode cX3_digest 4 = .ok (.iconst 0, 1) := by decide +kernel
theorem dX3_digest_5 : decode cX3_digest 5 = .ok (.istore_n 3, 1) := by decide +kernel
theorem dX3_digest_6 : decode cX3_digest 6 = .ok (.iload_n 3, 1) := by decide +kernel
theorem dX3_digest_7 : decode cX3_digest 7 = .ok (.bipush 17, 2) := by decide +kernel
theorem dX3_digest_9 : decode cX3_digest 9 = .ok (.if_icmp .gt 22, 3) := by decide +kernel
theorem dX3_digest_12 : decode cX3_digest 12 = .ok (.lload_n 1, 1) := by decide +kernel
theorem dX3_digest_13 : decode cX3_digest 13 = .ok (.ldc2_w 273, 3) := by decide +kernel
theorem dX3_digest_16 : decode cX3_digest 16 = .ok (.lmul, 1) := by decide +kernel
theorem dX3_digest_17 : decode cX3_digest 17 = .ok (.aload_n 0, 1) := by decide +kernel
theorem dX3_digest_18 : decode cX3_digest 18 = .ok (.iload_n 3, 1) := by decide +kernel
theorem dX3_digest_19 : decode cX3_digest 19 = .ok (.invokevirtual 275, 3) := by decide +kernel
theorem dX3_digest_22 : decode cX3_digest 22 = .ok (.i2l, 1) := by decide +kernel
theorem dX3_digest_23 : decode cX3_digest 23 = .ok (.ladd, 1) := by decide +kernel
theorem dX3_digest_24 : decode cX3_digest 24 = .ok (.lstore_n 1, 1) := by decide +kernel
theorem dX3_digest_25 : decode cX3_digest 25 = .ok (.iinc 3 1, 3) := by decide +kernel
theorem dX3_digest_28 : decode cX3_digest 28 = .ok (.goto (-22), 3) := by decide +kernel
theorem dX3_digest_31 : decode cX3_digest 31 = .ok (.iconst 0, 1) := by decide +kernel
theorem dX3_digest_32 : decode cX3_digest 32 = .ok (.istore_n 3, 1) := by decide +kernel
theorem dX3_digest_33 : decode cX3_digest 33 = .ok (.iload_n 3, 1) := by decide +kernel
theorem dX3_digest_34 : decode cX3_digest 34 = .ok (.bipush 8, 2) := by decide +kernel
theorem dX3_digest_36 : decode cX3_digest 36 = .ok (.if_icmp .ge 40, 3) := by decide +kernel
theorem dX3_digest_39 : decode cX3_digest 39 = .ok (.iconst 0, 1) := by decide +kernel
theorem dX3_digest_40 : decode cX3_digest 40 = .ok (.istore 4, 2) := by decide +kernel
theorem dX3_digest_42 : decode cX3_digest 42 = .ok (.iload 4, 2) := by decide +kernel
theorem dX3_digest_44 : decode cX3_digest 44 = .ok (.bipush 10, 2) := by decide +kernel
theorem dX3_digest_46 : decode cX3_digest 46 = .ok (.if_icmp .gt 24, 3) := by decide +kernel
theorem dX3_digest_49 : decode cX3_digest 49 = .ok (.lload_n 1, 1) := by decide +kernel
theorem dX3_digest_50 : decode cX3_digest 50 = .ok (.ldc2_w 273, 3) := by decide +kernel
theorem dX3_digest_53 : decode cX3_digest 53 = .ok (.lmul, 1) := by decide +kernel
theorem dX3_digest_54 : decode cX3_digest 54 = .ok (.aload_n 0, 1) := by decide +kernel
theorem dX3_digest_55 : decode cX3_digest 55 = .ok (.iload_n 3, 1) := by decide +kernel
theorem dX3_digest_56 : decode cX3_digest 56 = .ok (.iload 4, 2) := by decide +kernel
theorem dX3_digest_58 : decode cX3_digest 58 = .ok (.invokevirtual 278, 3) := by decide +kernel
theorem dX3_digest_61 : decode cX3_digest 61 = .ok (.i2l, 1) := by decide +kernel
theorem dX3_digest_62 : decode cX3_digest 62 = .ok (.ladd, 1) := by decide +kernel
theorem dX3_digest_63 : decode cX3_digest 63 = .ok (.lstore_n 1, 1) := by decide +kernel
theorem dX3_digest_64 : decode cX3_digest 64 = .ok (.iinc 4 1, 3) := by decide +kernel
theorem dX3_digest_67 : decode cX3_digest 67 = .ok (.goto (-25), 3) := by decide +kernel
theorem dX3_digest_70 : decode cX3_digest 70 = .ok (.iinc 3 1, 3) := by decide +kernel
theorem dX3_digest_73 : decode cX3_digest 73 = .ok (.goto (-40), 3) := by decide +kernel
theorem dX3_digest_76 : decode cX3_digest 76 = .ok (.iconst 0, 1) := by decide +kernel
theorem dX3_digest_77 : decode cX3_digest 77 = .ok (.istore_n 3, 1) := by decide +kernel
theorem dX3_digest_78 : decode cX3_digest 78 = .ok (.iload_n 3, 1) := by decide +kernel
theorem dX3_digest_79 : decode cX3_digest 79 = .ok (.aload_n 0, 1) := by decide +kernel
theorem dX3_digest_80 : decode cX3_digest 80 = .ok (.getfield 129, 3) := by decide +kernel
theorem dX3_digest_83 : decode cX3_digest 83 = .ok (.if_icmp .ge 16, 3) := by decide +kernel
theorem dX3_digest_86 : decode cX3_digest 86 = .ok (.aload_n 0, 1) := by decide +kernel
theorem dX3_digest_87 : decode cX3_digest 87 = .ok (.iload_n 3, 1) := by decide +kernel
theorem dX3_digest_88 : decode cX3_digest 88 = .ok (.lload_n 1, 1) := by decide +kernel
theorem dX3_digest_89 : decode cX3_digest 89 = .ok (.invokevirtual 281, 3) := by decide +kernel
theorem dX3_digest_92 : decode cX3_digest 92 = .ok (.lstore_n 1, 1) := by decide +kernel
theorem dX3_digest_93 : decode cX3_digest 93 = .ok (.iinc 3 1, 3) := by decide +kernel
theorem dX3_digest_96 : decode cX3_digest 96 = .ok (.goto (-18), 3) := by decide +kernel
theorem dX3_digest_99 : decode cX3_digest 99 = .ok (.iconst 5, 1) := by decide +kernel
theorem dX3_digest_100 : decode cX3_digest 100 = .ok (.istore_n 3, 1) := by decide +kernel
theorem dX3_digest_101 : decode cX3_digest 101 = .ok (.iload_n 3, 1) := by decide +kernel
theorem dX3_digest_102 : decode cX3_digest 102 = .ok (.bipush 8, 2) := by decide +kernel
theorem dX3_digest_104 : decode cX3_digest 104 = .ok (.if_icmp .ge 25, 3) := by decide +kernel
theorem dX3_digest_107 : decode cX3_digest 107 = .ok (.lload_n 1, 1) := by decide +kernel
theorem dX3_digest_108 : decode cX3_digest 108 = .ok (.ldc2_w 273, 3) := by decide +kernel
theorem dX3_digest_111 : decode cX3_digest 111 = .ok (.lmul, 1) := by decide +kernel
theorem dX3_digest_112 : decode cX3_digest 112 = .ok (.aload_n 0, 1) := by decide +kernel
theorem dX3_digest_113 : decode cX3_digest 113 = .ok (.iload_n 3, 1) := by decide +kernel
theorem dX3_digest_114 : decode cX3_digest 114 = .ok (.bipush 7, 2) := by decide +kernel
theorem dX3_digest_116 : decode cX3_digest 116 = .ok (.iconst 3, 1) := by decide +kernel
theorem dX3_digest_117 : decode cX3_digest 117 = .ok (.invokevirtual 285, 3) := by decide +kernel
theorem dX3_digest_120 : decode cX3_digest 120 = .ok (.i2l, 1) := by decide +kernel
theorem dX3_digest_121 : decode cX3_digest 121 = .ok (.ladd, 1) := by decide +kernel
theorem dX3_digest_122 : decode cX3_digest 122 = .ok (.lstore_n 1, 1) := by decide +kernel
theorem dX3_digest_123 : decode cX3_digest 123 = .ok (.iinc 3 1, 3) := by decide +kernel
theorem dX3_digest_126 : decode cX3_digest 126 = .ok (.goto (-25), 3) := by decide +kernel
theorem dX3_digest_129 : decode cX3_digest 129 = .ok (.lload_n 1, 1) := by decide +kernel
theorem dX3_digest_130 : decode cX3_digest 130 = .ok (.ldc2_w 273, 3) := by decide +kernel
theorem dX3_digest_133 : decode cX3_digest 133 = .ok (.lmul, 1) := by decide +kernel
theorem dX3_digest_134 : decode cX3_digest 134 = .ok (.aload_n 0, 1) := by decide +kernel
theorem dX3_digest_135 : decode cX3_digest 135 = .ok (.iconst 3, 1) := by decide +kernel
theorem dX3_digest_136 : decode cX3_digest 136 = .ok (.bipush 6, 2) := by decide +kernel
theorem dX3_digest_138 : decode cX3_digest 138 = .ok (.iconst 2, 1) := by decide +kernel
theorem dX3_digest_139 : decode cX3_digest 139 = .ok (.invokevirtual 289, 3) := by decide +kernel
theorem dX3_digest_142 : decode cX3_digest 142 = .ok (.i2l, 1) := by decide +kernel
theorem dX3_digest_143 : decode cX3_digest 143 = .ok (.ladd, 1) := by decide +kernel
theorem dX3_digest_144 : decode cX3_digest 144 = .ok (.lstore_n 1, 1) := by decide +kernel
theorem dX3_digest_145 : decode cX3_digest 145 = .ok (.lload_n 1, 1) := by decide +kernel
theorem dX3_digest_146 : decode cX3_digest 146 = .ok (.ldc2_w 273, 3) := by decide +kernel
theorem dX3_digest_149 : decode cX3_digest 149 = .ok (.lmul, 1) := by decide +kernel
theorem dX3_digest_150 : decode cX3_digest 150 = .ok (.aload_n 0, 1) := by decide +kernel
theorem dX3_digest_151 : decode cX3_digest 151 = .ok (.bipush 9, 2) := by decide +kernel
theorem dX3_digest_153 : decode cX3_digest 153 = .ok (.iconst 1, 1) := by decide +kernel
theorem dX3_digest_154 : decode cX3_digest 154 = .ok (.invokevirtual 292, 3) := by decide +kernel
theorem dX3_digest_157 : decode cX3_digest 157 = .ok (.i2l, 1) := by decide +kernel
theorem dX3_digest_158 : decode cX3_digest 158 = .ok (.ladd, 1) := by decide +kernel
theorem dX3_digest_159 : decode cX3_digest 159 = .ok (.lstore_n 1, 1) := by decide +kernel
theorem dX3_digest_160 : decode cX3_digest 160 = .ok (.lload_n 1, 1) := by decide +kernel
theorem dX3_digest_161 : decode cX3_digest 161 = .ok (.ldc2_w 273, 3) := by decide +kernel
theorem dX3_digest_164 : decode cX3_digest 164 = .ok (.lmul, 1) := by decide +kernel
theorem dX3_digest_165 : decode cX3_digest 165 = .ok (.aload_n 0, 1) := by decide +kernel
theorem dX3_digest_166 : decode cX3_digest 166 = .ok (.iconst 3, 1) := by decide +kernel
theorem dX3_digest_167 : decode cX3_digest 167 = .ok (.iconst 0, 1) := by decide +kernel
theorem dX3_digest_168 : decode cX3_digest 168 = .ok (.invokevirtual 292, 3) := by decide +kernel
theorem dX3_digest_171 : decode cX3_digest 171 = .ok (.i2l, 1) := by decide +kernel
theorem dX3_digest_172 : decode cX3_digest 172 = .ok (.ladd, 1) := by decide +kernel
theorem dX3_digest_173 : decode cX3_digest 173 = .ok (.lreturn, 1) := by decide +kernel
set_option maxRecDepth 20000 in
theorem ggX3_digestOfFamily_X3_ofFamily : GoodIn wsX3_digestOfFamily wsX3_ofFamily := goodIn_ca (goodIn_ca (goodIn_r _ [6, 7, 8, 9, 10, 11, 12, 5, 13, 14, 15, 16, 17, 18, 19, 20, 21, 22, 23, 24, 25, 26, 27, 28, 29, 30, 31, 32, 42, 43, 44, 45, 46, 47, 48, 49, 50, 51, 52, 53, 54, 55, 56, 57] (by decide +kernel) (by decide +kernel)) (goodIn_sub (fun _ h => List.mem_cons_of_mem _ (List.mem_append_left _ (List.mem_append_right _ h))) (by decide +kernel))) (goodIn_sub (fun _ h => List.mem_cons_of_mem _ (List.mem_append_right _ h)) (by decide +kernel))
set_option maxRecDepth 20000 in
theorem gX3_digestOfFamily_X3_ofFamily : GoodIn wsX3_digestOfFamily (wsV RX3 296 RX3 yX3_ofFamily wsX3_ofFamily) := goodIn_app (goodIn_of _ (by decide +kernel)) ggX3_digestOfFamily_X3_ofFamily
set_option maxRecDepth 20000 in
theorem ggX3_digestOfFamily_X3_rightOf : GoodIn wsX3_digestOfFamily wsX3_rightOf := goodIn_ca (goodIn_r _ [36, 9, 37, 10, 11, 12, 5, 13, 14, 15, 16, 38, 39, 40, 41, 42, 43, 44, 45, 46, 47, 48, 49, 50, 51, 52, 53, 54, 55, 56, 57] (by decide +kernel) (by decide +kernel)) (goodIn_sub (fun _ h => List.mem_cons_of_mem _ (List.mem_append_right _ h)) (by decide +kernel))
set_option maxRecDepth 20000 in
theorem gX3_digestOfFamily_X3_rightOf : GoodIn wsX3_digestOfFamily (wsV RX3 299 RX3 yX3_rightOf wsX3_rightOf) := goodIn_app (goodIn_of _ (by decide +kernel)) ggX3_digestOfFamily_X3_rightOf
theorem dX3_digestOfFamily_0 : decode cX3_digestOfFamily 0 = .ok (.lload_n 2, 1) := by decide +kernel
theorem dX3_digestOfFamily_1 : decode cX3_digestOfFamily 1 = .ok (.lstore 4, 2) := by decide +kernel
theorem dX3_digestOfFamily_3 : decode cX3_digestOfFamily 3 = .ok (.iconst 0, 1) := by decide +kernel
theorem dX3_digestOfFamily_4 : decode cX3_digestOfFamily 4 = .ok (.istore 6, 2) := by decide +kernel
theorem dX3_digestOfFamily_6 : decode cX3_digestOfFamily 6 = .ok (.iload 6, 2) := by decide +kernel
theorem dX3_digestOfFamily_8 : decode cX3_digestOfFamily 8 = .ok (.iconst 5, 1) := by decide +kernel
theorem dX3_digestOfFamily_9 : decode cX3_digestOfFamily 9 = .ok (.if_icmp .gt 26, 3) := by decide +kernel
theorem dX3_digestOfFamily_12 : decode cX3_digestOfFamily 12 = .ok (.lload 4, 2) := by decide +kernel
theorem dX3_digestOfFamily_14 : decode cX3_digestOfFamily 14 = .ok (.ldc2_w 273, 3) := by decide +kernel
theorem dX3_digestOfFamily_17 : decode cX3_digestOfFamily 17 = .ok (.lmul, 1) := by decide +kernel
theorem dX3_digestOfFamily_18 : decode cX3_digestOfFamily 18 = .ok (.aload_n 0, 1) := by decide +kernel
theorem dX3_digestOfFamily_19 : decode cX3_digestOfFamily 19 = .ok (.iload_n 1, 1) := by decide +kernel
theorem dX3_digestOfFamily_20 : decode cX3_digestOfFamily 20 = .ok (.iload 6, 2) := by decide +kernel
theorem dX3_digestOfFamily_22 : decode cX3_digestOfFamily 22 = .ok (.invokevirtual 296, 3) := by decide +kernel
theorem dX3_digestOfFamily_25 : decode cX3_digestOfFamily 25 = .ok (.i2l, 1) := by decide +kernel
theorem dX3_digestOfFamily_26 : decode cX3_digestOfFamily 26 = .ok (.ladd, 1) := by decide +kernel
theorem dX3_digestOfFamily_27 : decode cX3_digestOfFamily 27 = .ok (.lstore 4, 2) := by decide +kernel
theorem dX3_digestOfFamily_29 : decode cX3_digestOfFamily 29 = .ok (.iinc 6 1, 3) := by decide +kernel
theorem dX3_digestOfFamily_32 : decode cX3_digestOfFamily 32 = .ok (.goto (-26), 3) := by decide +kernel
theorem dX3_digestOfFamily_35 : decode cX3_digestOfFamily 35 = .ok (.iconst 5, 1) := by decide +kernel
theorem dX3_digestOfFamily_36 : decode cX3_digestOfFamily 36 = .ok (.istore 6, 2) := by decide +kernel
theorem dX3_digestOfFamily_38 : decode cX3_digestOfFamily 38 = .ok (.iload 6, 2) := by decide +kernel
theorem dX3_digestOfFamily_40 : decode cX3_digestOfFamily 40 = .ok (.bipush 8, 2) := by decide +kernel
theorem dX3_digestOfFamily_42 : decode cX3_digestOfFamily 42 = .ok (.if_icmp .ge 26, 3) := by decide +kernel
theorem dX3_digestOfFamily_45 : decode cX3_digestOfFamily 45 = .ok (.lload 4, 2) := by decide +kernel
theorem dX3_digestOfFamily_47 : decode cX3_digestOfFamily 47 = .ok (.ldc2_w 273, 3) := by decide +kernel
theorem dX3_digestOfFamily_50 : decode cX3_digestOfFamily 50 = .ok (.lmul, 1) := by decide +kernel
theorem dX3_digestOfFamily_51 : decode cX3_digestOfFamily 51 = .ok (.aload_n 0, 1) := by decide +kernel
theorem dX3_digestOfFamily_52 : decode cX3_digestOfFamily 52 = .ok (.iload_n 1, 1) := by decide +kernel
theorem dX3_digestOfFamily_53 : decode cX3_digestOfFamily 53 = .ok (.iload 6, 2) := by decide +kernel
theorem dX3_digestOfFamily_55 : decode cX3_digestOfFamily 55 = .ok (.invokevirtual 299, 3) := by decide +kernel
theorem dX3_digestOfFamily_58 : decode cX3_digestOfFamily 58 = .ok (.i2l, 1) := by decide +kernel
theorem dX3_digestOfFamily_59 : decode cX3_digestOfFamily 59 = .ok (.ladd, 1) := by decide +kernel
theorem dX3_digestOfFamily_60 : decode cX3_digestOfFamily 60 = .ok (.lstore 4, 2) := by decide +kernel
theorem dX3_digestOfFamily_62 : decode cX3_digestOfFamily 62 = .ok (.iinc 6 1, 3) := by decide +kernel
theorem dX3_digestOfFamily_65 : decode cX3_digestOfFamily 65 = .ok (.goto (-27), 3) := by decide +kernel
theorem dX3_digestOfFamily_68 : decode cX3_digestOfFamily 68 = .ok (.lload 4, 2) := by decide +kernel
theorem dX3_digestOfFamily_70 : decode cX3_digestOfFamily 70 = .ok (.lreturn, 1) := by decide +kernel
set_option maxRecDepth 20000 in
theorem ggX3_saltInPansWith_X2_copyFrom : GoodIn wsX3_saltInPansWith wsX2_copyFrom := goodIn_r _ [7, 8, 9, 10, 11, 12, 13, 14, 15, 16, 17, 18, 19, 20, 21, 22, 23, 24, 25, 26, 27, 28, 29, 122, 123, 124, 125, 126, 127, 128, 129, 130, 131, 132, 133, 134, 135, 136, 137, 138] (by decide +kernel) (by decide +kernel)
set_option maxRecDepth 20000 in
theorem gX3_saltInPansWith_X2_copyFrom : GoodIn wsX3_saltInPansWith (wsV RX3 254 RX2 yX2_copyFrom wsX2_copyFrom) := goodIn_app (goodIn_of _ (by decide +kernel)) ggX3_saltInPansWith_X2_copyFrom
set_option maxRecDepth 20000 in
theorem ggX3_saltInPansWith_X2_setGates : GoodIn wsX3_saltInPansWith wsX2_setGates := goodIn_r _ [33, 12, 34, 122, 123, 124, 125, 126, 127, 128, 129, 130, 131, 132, 133, 134, 135, 136, 137, 138] (by decide +kernel) (by decide +kernel)
set_option maxRecDepth 20000 in
theorem gX3_saltInPansWith_X2_setGates : GoodIn wsX3_saltInPansWith (wsV RX3 302 RX2 yX2_setGates wsX2_setGates) := goodIn_app (goodIn_of _ (by decide +kernel)) ggX3_saltInPansWith_X2_setGates
set_option maxRecDepth 20000 in
theorem ggX3_saltInPansWith_X2_letDayGoBy : GoodIn wsX3_saltInPansWith wsX2_letDayGoBy := goodIn_r _ [38, 8, 9, 10, 12, 39, 40, 41, 42, 6, 43, 34, 44, 11, 45, 46, 47, 48, 49, 50, 51, 52, 53, 54, 16, 55, 19, 18, 56, 57, 58, 59, 60, 61, 20, 21, 22, 62, 63, 64, 65, 66, 67, 68, 69, 70, 71, 72, 73, 74, 75, 76, 77, 78, 28, 23, 79, 80, 81, 82, 83, 84, 85, 86, 87, 88, 89, 90, 91, 92, 93, 94, 24, 95, 96, 97, 98, 26, 25, 99, 100, 101, 102, 103, 104, 105, 122, 123, 124, 125, 126, 127, 128, 129, 130, 131, 132, 133, 134, 135, 136, 137, 138] (by decide +kernel) (by decide +kernel)
set_option maxRecDepth 20000 in
theorem gX3_saltInPansWith_X2_letDayGoBy : GoodIn wsX3_saltInPansWith (wsV RX3 75 RX2 yX2_letDayGoBy wsX2_letDayGoBy) := goodIn_app (goodIn_of _ (by decide +kernel)) ggX3_saltInPansWith_X2_letDayGoBy
set_option maxRecDepth 20000 in
theorem ggX3_saltInPansWith_X2_saltInPans : GoodIn wsX3_saltInPansWith wsX2_saltInPans := goodIn_r _ [109, 12, 110, 111, 122, 123, 124, 125, 126, 127, 128, 129, 130, 131, 132, 133, 134, 135, 136, 137, 138] (by decide +kernel) (by decide +kernel)
set_option maxRecDepth 20000 in
theorem gX3_saltInPansWith_X2_saltInPans : GoodIn wsX3_saltInPansWith (wsV RX3 305 RX2 yX2_saltInPans wsX2_saltInPans) := goodIn_app (goodIn_of _ (by decide +kernel)) ggX3_saltInPansWith_X2_saltInPans
theorem dX3_saltInPansWith_0 : decode cX3_saltInPansWith 0 = .ok (.aload_n 0, 1) := by decide +kernel
theorem dX3_saltInPansWith_1 : decode cX3_saltInPansWith 1 = .ok (.getfield 16, 3) := by decide +kernel
theorem dX3_saltInPansWith_4 : decode cX3_saltInPansWith 4 = .ok (.aload_n 0, 1) := by decide +kernel
theorem dX3_saltInPansWith_5 : decode cX3_saltInPansWith 5 = .ok (.getfield 10, 3) := by decide +kernel
theorem dX3_saltInPansWith_8 : decode cX3_saltInPansWith 8 = .ok (.invokevirtual 254, 3) := by decide +kernel
theorem dX3_saltInPansWith_11 : decode cX3_saltInPansWith 11 = .ok (.aload_n 0, 1) := by decide +kernel
theorem dX3_saltInPansWith_12 : decode cX3_saltInPansWith 12 = .ok (.getfield 16, 3) := by decide +kernel
theorem dX3_saltInPansWith_15 : decode cX3_saltInPansWith 15 = .ok (.iload_n 1, 1) := by decide +kernel
theorem dX3_saltInPansWith_16 : decode cX3_saltInPansWith 16 = .ok (.invokevirtual 302, 3) := by decide +kernel
theorem dX3_saltInPansWith_19 : decode cX3_saltInPansWith 19 = .ok (.iconst 0, 1) := by decide +kernel
theorem dX3_saltInPansWith_20 : decode cX3_saltInPansWith 20 = .ok (.istore 5, 2) := by decide +kernel
theorem dX3_saltInPansWith_22 : decode cX3_saltInPansWith 22 = .ok (.iload 5, 2) := by decide +kernel
theorem dX3_saltInPansWith_24 : decode cX3_saltInPansWith 24 = .ok (.iload_n 2, 1) := by decide +kernel
theorem dX3_saltInPansWith_25 : decode cX3_saltInPansWith 25 = .ok (.if_icmp .ge 20, 3) := by decide +kernel
theorem dX3_saltInPansWith_28 : decode cX3_saltInPansWith 28 = .ok (.aload_n 0, 1) := by decide +kernel
theorem dX3_saltInPansWith_29 : decode cX3_saltInPansWith 29 = .ok (.getfield 16, 3) := by decide +kernel
theorem dX3_saltInPansWith_32 : decode cX3_saltInPansWith 32 = .ok (.iload_n 3, 1) := by decide +kernel
theorem dX3_saltInPansWith_33 : decode cX3_saltInPansWith 33 = .ok (.iload 4, 2) := by decide +kernel
theorem dX3_saltInPansWith_35 : decode cX3_saltInPansWith 35 = .ok (.iconst 0, 1) := by decide +kernel
theorem dX3_saltInPansWith_36 : decode cX3_saltInPansWith 36 = .ok (.invokevirtual 75, 3) := by decide +kernel
theorem dX3_saltInPansWith_39 : decode cX3_saltInPansWith 39 = .ok (.iinc 5 1, 3) := by decide +kernel
theorem dX3_saltInPansWith_42 : decode cX3_saltInPansWith 42 = .ok (.goto (-20), 3) := by decide +kernel
theorem dX3_saltInPansWith_45 : decode cX3_saltInPansWith 45 = .ok (.aload_n 0, 1) := by decide +kernel
theorem dX3_saltInPansWith_46 : decode cX3_saltInPansWith 46 = .ok (.getfield 16, 3) := by decide +kernel
theorem dX3_saltInPansWith_49 : decode cX3_saltInPansWith 49 = .ok (.invokevirtual 305, 3) := by decide +kernel
theorem dX3_saltInPansWith_52 : decode cX3_saltInPansWith 52 = .ok (.ireturn, 1) := by decide +kernel
set_option maxRecDepth 20000 in
theorem ggX3_shareOut_X3_portion : GoodIn wsX3_shareOut wsX3_portion := goodIn_r _ [10] (by decide +kernel) (by decide +kernel)
set_option maxRecDepth 20000 in
theorem gX3_shareOut_X3_portion : GoodIn wsX3_shareOut (va_wsS RX3 214 yX3_portion wsX3_portion) := goodIn_app (goodIn_of _ (by decide +kernel)) ggX3_shareOut_X3_portion
set_option maxRecDepth 20000 in
theorem ggX3_shareOut_X0_getSalt : GoodIn wsX3_shareOut wsX0_getSalt := goodIn_r _ [15, 16, 17, 18, 29, 30, 31, 32, 33, 34] (by decide +kernel) (by decide +kernel)
set_option maxRecDepth 20000 in
theorem gX3_shareOut_X0_getSalt : GoodIn wsX3_shareOut (wsV RX3 308 RX0 yX0_getSalt wsX0_getSalt) := goodIn_app (goodIn_of _ (by decide +kernel)) ggX3_shareOut_X0_getSalt
theorem dX3_shareOut_0 : decode cX3_shareOut 0 = .ok (.iload_n 2, 1) := by decide +kernel
theorem dX3_shareOut_1 : decode cX3_shareOut 1 = .ok (.istore 4, 2) := by decide +kernel
theorem dX3_shareOut_3 : decode cX3_shareOut 3 = .ok (.iload_n 3, 1) := by decide +kernel
theorem dX3_shareOut_4 : decode cX3_shareOut 4 = .ok (.istore 5, 2) := by decide +kernel
theorem dX3_shareOut_6 : decode cX3_shareOut 6 = .ok (.iconst 0, 1) := by decide +kernel
theorem dX3_shareOut_7 : decode cX3_shareOut 7 = .ok (.istore 6, 2) := by decide +kernel
theorem dX3_shareOut_9 : decode cX3_shareOut 9 = .ok (.iload 6, 2) := by decide +kernel
theorem dX3_shareOut_11 : decode cX3_shareOut 11 = .ok (.aload_n 0, 1) := by decide +kernel
theorem dX3_shareOut_12 : decode cX3_shareOut 12 = .ok (.getfield 129, 3) := by decide +kernel
theorem dX3_shareOut_15 : decode cX3_shareOut 15 = .ok (.if_icmp .ge 79, 3) := by decide +kernel
theorem dX3_shareOut_18 : decode cX3_shareOut 18 = .ok (.aload_n 0, 1) := by decide +kernel
theorem dX3_shareOut_19 : decode cX3_shareOut 19 = .ok (.getfield 21, 3) := by decide +kernel
theorem dX3_shareOut_22 : decode cX3_shareOut 22 = .ok (.iload 6, 2) := by decide +kernel
theorem dX3_shareOut_24 : decode cX3_shareOut 24 = .ok (.aaload, 1) := by decide +kernel
theorem dX3_shareOut_25 : decode cX3_shareOut 25 = .ok (.getfield 139, 3) := by decide +kernel
theorem dX3_shareOut_28 : decode cX3_shareOut 28 = .ok (.iload_n 1, 1) := by decide +kernel
theorem dX3_shareOut_29 : decode cX3_shareOut 29 = .ok (.iconst 5, 1) := by decide +kernel
theorem dX3_shareOut_30 : decode cX3_shareOut 30 = .ok (.isub, 1) := by decide +kernel
theorem dX3_shareOut_31 : decode cX3_shareOut 31 = .ok (.iaload, 1) := by decide +kernel
theorem dX3_shareOut_32 : decode cX3_shareOut 32 = .ok (.istore 7, 2) := by decide +kernel
theorem dX3_shareOut_34 : decode cX3_shareOut 34 = .ok (.iload_n 2, 1) := by decide +kernel
theorem dX3_shareOut_35 : decode cX3_shareOut 35 = .ok (.i2l, 1) := by decide +kernel
theorem dX3_shareOut_36 : decode cX3_shareOut 36 = .ok (.iload 7, 2) := by decide +kernel
theorem dX3_shareOut_38 : decode cX3_shareOut 38 = .ok (.i2l, 1) := by decide +kernel
theorem dX3_shareOut_39 : decode cX3_shareOut 39 = .ok (.ldc2_w 267, 3) := by decide +kernel
theorem dX3_shareOut_42 : decode cX3_shareOut 42 = .ok (.invokestatic 214, 3) := by decide +kernel
theorem dX3_shareOut_45 : decode cX3_shareOut 45 = .ok (.istore 8, 2) := by decide +kernel
theorem dX3_shareOut_47 : decode cX3_shareOut 47 = .ok (.iload_n 3, 1) := by decide +kernel
theorem dX3_shareOut_48 : decode cX3_shareOut 48 = .ok (.i2l, 1) := by decide +kernel
theorem dX3_shareOut_49 : decode cX3_shareOut 49 = .ok (.iload 7, 2) := by decide +kernel
theorem dX3_shareOut_51 : decode cX3_shareOut 51 = .ok (.i2l, 1) := by decide +kernel
theorem dX3_shareOut_52 : decode cX3_shareOut 52 = .ok (.ldc2_w 267, 3) := by decide +kernel
theorem dX3_shareOut_55 : decode cX3_shareOut 55 = .ok (.invokestatic 214, 3) := by decide +kernel
theorem dX3_shareOut_58 : decode cX3_shareOut 58 = .ok (.istore 9, 2) := by decide +kernel
theorem dX3_shareOut_60 : decode cX3_shareOut 60 = .ok (.aload_n 0, 1) := by decide +kernel
theorem dX3_shareOut_61 : decode cX3_shareOut 61 = .ok (.getfield 21, 3) := by decide +kernel
theorem dX3_shareOut_64 : decode cX3_shareOut 64 = .ok (.iload 6, 2) := by decide +kernel
theorem dX3_shareOut_66 : decode cX3_shareOut 66 = .ok (.aaload, 1) := by decide +kernel
theorem dX3_shareOut_67 : decode cX3_shareOut 67 = .ok (.iload 8, 2) := by decide +kernel
theorem dX3_shareOut_69 : decode cX3_shareOut 69 = .ok (.iload 9, 2) := by decide +kernel
theorem dX3_shareOut_71 : decode cX3_shareOut 71 = .ok (.invokevirtual 308, 3) := by decide +kernel
theorem dX3_shareOut_74 : decode cX3_shareOut 74 = .ok (.iload 4, 2) := by decide +kernel
theorem dX3_shareOut_76 : decode cX3_shareOut 76 = .ok (.iload 8, 2) := by decide +kernel
theorem dX3_shareOut_78 : decode cX3_shareOut 78 = .ok (.isub, 1) := by decide +kernel
theorem dX3_shareOut_79 : decode cX3_shareOut 79 = .ok (.istore 4, 2) := by decide +kernel
theorem dX3_shareOut_81 : decode cX3_shareOut 81 = .ok (.iload 5, 2) := by decide +kernel
theorem dX3_shareOut_83 : decode cX3_shareOut 83 = .ok (.iload 9, 2) := by decide +kernel
theorem dX3_shareOut_85 : decode cX3_shareOut 85 = .ok (.isub, 1) := by decide +kernel
theorem dX3_shareOut_86 : decode cX3_shareOut 86 = .ok (.istore 5, 2) := by decide +kernel
theorem dX3_shareOut_88 : decode cX3_shareOut 88 = .ok (.iinc 6 1, 3) := by decide +kernel
theorem dX3_shareOut_91 : decode cX3_shareOut 91 = .ok (.goto (-82), 3) := by decide +kernel
theorem dX3_shareOut_94 : decode cX3_shareOut 94 = .ok (.aload_n 0, 1) := by decide +kernel
theorem dX3_shareOut_95 : decode cX3_shareOut 95 = .ok (.dup, 1) := by decide +kernel
theorem dX3_shareOut_96 : decode cX3_shareOut 96 = .ok (.getfield 246, 3) := by decide +kernel
theorem dX3_shareOut_99 : decode cX3_shareOut 99 = .ok (.iload 4, 2) := by decide +kernel
theorem dX3_shareOut_101 : decode cX3_shareOut 101 = .ok (.iadd, 1) := by decide +kernel
theorem dX3_shareOut_102 : decode cX3_shareOut 102 = .ok (.putfield 246, 3) := by decide +kernel
theorem dX3_shareOut_105 : decode cX3_shareOut 105 = .ok (.aload_n 0, 1) := by decide +kernel
theorem dX3_shareOut_106 : decode cX3_shareOut 106 = .ok (.dup, 1) := by decide +kernel
theorem dX3_shareOut_107 : decode cX3_shareOut 107 = .ok (.getfield 249, 3) := by decide +kernel
theorem dX3_shareOut_110 : decode cX3_shareOut 110 = .ok (.iload 5, 2) := by decide +kernel
theorem dX3_shareOut_112 : decode cX3_shareOut 112 = .ok (.iadd, 1) := by decide +kernel
theorem dX3_shareOut_113 : decode cX3_shareOut 113 = .ok (.putfield 249, 3) := by decide +kernel
theorem dX3_shareOut_116 : decode cX3_shareOut 116 = .ok (.return_, 1) := by decide +kernel
theorem dX3_rightsIn_0 : decode cX3_rightsIn 0 = .ok (.iconst 0, 1) := by decide +kernel
theorem dX3_rightsIn_1 : decode cX3_rightsIn 1 = .ok (.istore_n 2, 1) := by decide +kernel
theorem dX3_rightsIn_2 : decode cX3_rightsIn 2 = .ok (.iconst 0, 1) := by decide +kernel
theorem dX3_rightsIn_3 : decode cX3_rightsIn 3 = .ok (.istore_n 3, 1) := by decide +kernel
theorem dX3_rightsIn_4 : decode cX3_rightsIn 4 = .ok (.iload_n 3, 1) := by decide +kernel
theorem dX3_rightsIn_5 : decode cX3_rightsIn 5 = .ok (.aload_n 0, 1) := by decide +kernel
theorem dX3_rightsIn_6 : decode cX3_rightsIn 6 = .ok (.getfield 129, 3) := by decide +kernel
theorem dX3_rightsIn_9 : decode cX3_rightsIn 9 = .ok (.if_icmp .ge 25, 3) := by decide +kernel
theorem dX3_rightsIn_12 : decode cX3_rightsIn 12 = .ok (.iload_n 2, 1) := by decide +kernel
theorem dX3_rightsIn_13 : decode cX3_rightsIn 13 = .ok (.aload_n 0, 1) := by decide +kernel
theorem dX3_rightsIn_14 : decode cX3_rightsIn 14 = .ok (.getfield 21, 3) := by decide +kernel
theorem dX3_rightsIn_17 : decode cX3_rightsIn 17 = .ok (.iload_n 3, 1) := by decide +kernel
theorem dX3_rightsIn_18 : decode cX3_rightsIn 18 = .ok (.aaload, 1) := by decide +kernel
theorem dX3_rightsIn_19 : decode cX3_rightsIn 19 = .ok (.getfield 139, 3) := by decide +kernel
theorem dX3_rightsIn_22 : decode cX3_rightsIn 22 = .ok (.iload_n 1, 1) := by decide +kernel
theorem dX3_rightsIn_23 : decode cX3_rightsIn 23 = .ok (.iconst 5, 1) := by decide +kernel
theorem dX3_rightsIn_24 : decode cX3_rightsIn 24 = .ok (.isub, 1) := by decide +kernel
theorem dX3_rightsIn_25 : decode cX3_rightsIn 25 = .ok (.iaload, 1) := by decide +kernel
theorem dX3_rightsIn_26 : decode cX3_rightsIn 26 = .ok (.iadd, 1) := by decide +kernel
theorem dX3_rightsIn_27 : decode cX3_rightsIn 27 = .ok (.istore_n 2, 1) := by decide +kernel
theorem dX3_rightsIn_28 : decode cX3_rightsIn 28 = .ok (.iinc 3 1, 3) := by decide +kernel
theorem dX3_rightsIn_31 : decode cX3_rightsIn 31 = .ok (.goto (-27), 3) := by decide +kernel
theorem dX3_rightsIn_34 : decode cX3_rightsIn 34 = .ok (.iload_n 2, 1) := by decide +kernel
theorem dX3_rightsIn_35 : decode cX3_rightsIn 35 = .ok (.ireturn, 1) := by decide +kernel
set_option maxRecDepth 20000 in
theorem ggX3_sumOfFamilies_X0_read : GoodIn wsX3_sumOfFamilies wsX0_read := goodIn_r _ [7, 8, 9, 10, 11, 12, 13, 14, 15, 16, 17, 18, 19, 30, 31, 32, 33, 34, 35] (by decide +kernel) (by decide +kernel)
set_option maxRecDepth 20000 in
theorem gX3_sumOfFamilies_X0_read : GoodIn wsX3_sumOfFamilies (wsV RX3 228 RX0 yX0_read wsX0_read) := goodIn_app (goodIn_of _ (by decide +kernel)) ggX3_sumOfFamilies_X0_read
theorem dX3_sumOfFamilies_0 : decode cX3_sumOfFamilies 0 = .ok (.iconst 0, 1) := by decide +kernel
theorem dX3_sumOfFamilies_1 : decode cX3_sumOfFamilies 1 = .ok (.istore_n 2, 1) := by decide +kernel
theorem dX3_sumOfFamilies_2 : decode cX3_sumOfFamilies 2 = .ok (.iconst 0, 1) := by decide +kernel
theorem dX3_sumOfFamilies_3 : decode cX3_sumOfFamilies 3 = .ok (.istore_n 3, 1) := by decide +kernel
theorem dX3_sumOfFamilies_4 : decode cX3_sumOfFamilies 4 = .ok (.iload_n 3, 1) := by decide +kernel
theorem dX3_sumOfFamilies_5 : decode cX3_sumOfFamilies 5 = .ok (.aload_n 0, 1) := by decide +kernel
theorem dX3_sumOfFamilies_6 : decode cX3_sumOfFamilies 6 = .ok (.getfield 129, 3) := by decide +kernel
theorem dX3_sumOfFamilies_9 : decode cX3_sumOfFamilies 9 = .ok (.if_icmp .ge 22, 3) := by decide +kernel
theorem dX3_sumOfFamilies_12 : decode cX3_sumOfFamilies 12 = .ok (.iload_n 2, 1) := by decide +kernel
theorem dX3_sumOfFamilies_13 : decode cX3_sumOfFamilies 13 = .ok (.aload_n 0, 1) := by decide +kernel
theorem dX3_sumOfFamilies_14 : decode cX3_sumOfFamilies 14 = .ok (.getfield 21, 3) := by decide +kernel
theorem dX3_sumOfFamilies_17 : decode cX3_sumOfFamilies 17 = .ok (.iload_n 3, 1) := by decide +kernel
theorem dX3_sumOfFamilies_18 : decode cX3_sumOfFamilies 18 = .ok (.aaload, 1) := by decide +kernel
theorem dX3_sumOfFamilies_19 : decode cX3_sumOfFamilies 19 = .ok (.iload_n 1, 1) := by decide +kernel
theorem dX3_sumOfFamilies_20 : decode cX3_sumOfFamilies 20 = .ok (.invokevirtual 228, 3) := by decide +kernel
theorem dX3_sumOfFamilies_23 : decode cX3_sumOfFamilies 23 = .ok (.iadd, 1) := by decide +kernel
theorem dX3_sumOfFamilies_24 : decode cX3_sumOfFamilies 24 = .ok (.istore_n 2, 1) := by decide +kernel
theorem dX3_sumOfFamilies_25 : decode cX3_sumOfFamilies 25 = .ok (.iinc 3 1, 3) := by decide +kernel
theorem dX3_sumOfFamilies_28 : decode cX3_sumOfFamilies 28 = .ok (.goto (-24), 3) := by decide +kernel
theorem dX3_sumOfFamilies_31 : decode cX3_sumOfFamilies 31 = .ok (.iload_n 2, 1) := by decide +kernel
theorem dX3_sumOfFamilies_32 : decode cX3_sumOfFamilies 32 = .ok (.ireturn, 1) := by decide +kernel
theorem dX3_needPond_0 : decode cX3_needPond 0 = .ok (.iload_n 1, 1) := by decide +kernel
theorem dX3_needPond_1 : decode cX3_needPond 1 = .ok (.ifCond .lt 9, 3) := by decide +kernel
theorem dX3_needPond_4 : decode cX3_needPond 4 = .ok (.iload_n 1, 1) := by decide +kernel
theorem dX3_needPond_5 : decode cX3_needPond 5 = .ok (.bipush 8, 2) := by decide +kernel
theorem dX3_needPond_7 : decode cX3_needPond 7 = .ok (.if_icmp .lt 14, 3) := by decide +kernel
theorem dX3_needPond_10 : decode cX3_needPond 10 = .ok (.new 311, 3) := by decide +kernel
theorem dX3_needPond_13 : decode cX3_needPond 13 = .ok (.dup, 1) := by decide +kernel
theorem dX3_needPond_14 : decode cX3_needPond 14 = .ok (.ldc_w 313, 3) := by decide +kernel
theorem dX3_needPond_17 : decode cX3_needPond 17 = .ok (.invokespecial 315, 3) := by decide +kernel
theorem dX3_needPond_20 : decode cX3_needPond 20 = .ok (.athrow, 1) := by decide +kernel
theorem dX3_needPond_21 : decode cX3_needPond 21 = .ok (.return_, 1) := by decide +kernel
theorem dX3_needPan_0 : decode cX3_needPan 0 = .ok (.iload_n 1, 1) := by decide +kernel
theorem dX3_needPan_1 : decode cX3_needPan 1 = .ok (.iconst 5, 1) := by decide +kernel
theorem dX3_needPan_2 : decode cX3_needPan 2 = .ok (.if_icmp .lt 9, 3) := by decide +kernel
theorem dX3_needPan_5 : decode cX3_needPan 5 = .ok (.iload_n 1, 1) := by decide +kernel
theorem dX3_needPan_6 : decode cX3_needPan 6 = .ok (.bipush 8, 2) := by decide +kernel
theorem dX3_needPan_8 : decode cX3_needPan 8 = .ok (.if_icmp .lt 14, 3) := by decide +kernel
theorem dX3_needPan_11 : decode cX3_needPan 11 = .ok (.new 311, 3) := by decide +kernel
theorem dX3_needPan_14 : decode cX3_needPan 14 = .ok (.dup, 1) := by decide +kernel
theorem dX3_needPan_15 : decode cX3_needPan 15 = .ok (.ldc_w 316, 3) := by decide +kernel
theorem dX3_needPan_18 : decode cX3_needPan 18 = .ok (.invokespecial 315, 3) := by decide +kernel
theorem dX3_needPan_21 : decode cX3_needPan 21 = .ok (.athrow, 1) := by decide +kernel
theorem dX3_needPan_22 : decode cX3_needPan 22 = .ok (.return_, 1) := by decide +kernel
theorem dX3_needFamily_0 : decode cX3_needFamily 0 = .ok (.iload_n 1, 1) := by decide +kernel
theorem dX3_needFamily_1 : decode cX3_needFamily 1 = .ok (.ifCond .lt 11, 3) := by decide +kernel
theorem dX3_needFamily_4 : decode cX3_needFamily 4 = .ok (.iload_n 1, 1) := by decide +kernel
theorem dX3_needFamily_5 : decode cX3_needFamily 5 = .ok (.aload_n 0, 1) := by decide +kernel
theorem dX3_needFamily_6 : decode cX3_needFamily 6 = .ok (.getfield 129, 3) := by decide +kernel
theorem dX3_needFamily_9 : decode cX3_needFamily 9 = .ok (.if_icmp .lt 14, 3) := by decide +kernel
theorem dX3_needFamily_12 : decode cX3_needFamily 12 = .ok (.new 311, 3) := by decide +kernel
theorem dX3_needFamily_15 : decode cX3_needFamily 15 = .ok (.dup, 1) := by decide +kernel
theorem dX3_needFamily_16 : decode cX3_needFamily 16 = .ok (.ldc_w 318, 3) := by decide +kernel
theorem dX3_needFamily_19 : decode cX3_needFamily 19 = .ok (.invokespecial 315, 3) := by decide +kernel
theorem dX3_needFamily_22 : decode cX3_needFamily 22 = .ok (.athrow, 1) := by decide +kernel
theorem dX3_needFamily_23 : decode cX3_needFamily 23 = .ok (.return_, 1) := by decide +kernel
theorem dX3_needWeather_0 : decode cX3_needWeather 0 = .ok (.iload_n 1, 1) := by decide +kernel
theorem dX3_needWeather_1 : decode cX3_needWeather 1 = .ok (.ifCond .lt 9, 3) := by decide +kernel
theorem dX3_needWeather_4 : decode cX3_needWeather 4 = .ok (.iload_n 1, 1) := by decide +kernel
theorem dX3_needWeather_5 : decode cX3_needWeather 5 = .ok (.bipush 9, 2) := by decide +kernel
theorem dX3_needWeather_7 : decode cX3_needWeather 7 = .ok (.if_icmp .le 14, 3) := by decide +kernel
theorem dX3_needWeather_10 : decode cX3_needWeather 10 = .ok (.new 30, 3) := by decide +kernel
theorem dX3_needWeather_13 : decode cX3_needWeather 13 = .ok (.dup, 1) := by decide +kernel
theorem dX3_needWeather_14 : decode cX3_needWeather 14 = .ok (.ldc_w 320, 3) := by decide +kernel
theorem dX3_needWeather_17 : decode cX3_needWeather 17 = .ok (.invokespecial 34, 3) := by decide +kernel
theorem dX3_needWeather_20 : decode cX3_needWeather 20 = .ok (.athrow, 1) := by decide +kernel
theorem dX3_needWeather_21 : decode cX3_needWeather 21 = .ok (.iload_n 2, 1) := by decide +kernel
theorem dX3_needWeather_22 : decode cX3_needWeather 22 = .ok (.ifCond .lt 9, 3) := by decide +kernel
theorem dX3_needWeather_25 : decode cX3_needWeather 25 = .ok (.iload_n 2, 1) := by decide +kernel
theorem dX3_needWeather_26 : decode cX3_needWeather 26 = .ok (.bipush 9, 2) := by decide +kernel
theorem dX3_needWeather_28 : decode cX3_needWeather 28 = .ok (.if_icmp .le 14, 3) := by decide +kernel
theorem dX3_needWeather_31 : decode cX3_needWeather 31 = .ok (.new 30, 3) := by decide +kernel
theorem dX3_needWeather_34 : decode cX3_needWeather 34 = .ok (.dup, 1) := by decide +kernel
theorem dX3_needWeather_35 : decode cX3_needWeather 35 = .ok (.ldc_w 322, 3) := by decide +kernel
theorem dX3_needWeather_38 : decode cX3_needWeather 38 = .ok (.invokespecial 34, 3) := by decide +kernel
theorem dX3_needWeather_41 : decode cX3_needWeather 41 = .ok (.athrow, 1) := by decide +kernel
theorem dX3_needWeather_42 : decode cX3_needWeather 42 = .ok (.return_, 1) := by decide +kernel
theorem dX3_tideAt_0 : decode cX3_tideAt 0 = .ok (.iconst 2, 1) := by decide +kernel
theorem dX3_tideAt_1 : decode cX3_tideAt 1 = .ok (.iload_n 0, 1) := by decide +kernel
theorem dX3_tideAt_2 : decode cX3_tideAt 2 = .ok (.bipush 14, 2) := by decide +kernel
theorem dX3_tideAt_4 : decode cX3_tideAt 4 = .ok (.irem, 1) := by decide +kernel
theorem dX3_tideAt_5 : decode cX3_tideAt 5 = .ok (.bipush 7, 2) := by decide +kernel
theorem dX3_tideAt_7 : decode cX3_tideAt 7 = .ok (.isub, 1) := by decide +kernel
theorem dX3_tideAt_8 : decode cX3_tideAt 8 = .ok (.invokestatic 324, 3) := by decide +kernel
theorem dX3_tideAt_11 : decode cX3_tideAt 11 = .ok (.iadd, 1) := by decide +kernel
theorem dX3_tideAt_12 : decode cX3_tideAt 12 = .ok (.ireturn, 1) := by decide +kernel
theorem dX3_crownsPart_0 : decode cX3_crownsPart 0 = .ok (.iload_n 0, 1) := by decide +kernel
theorem dX3_crownsPart_1 : decode cX3_crownsPart 1 = .ok (.bipush 10, 2) := by decide +kernel
theorem dX3_crownsPart_3 : decode cX3_crownsPart 3 = .ok (.idiv, 1) := by decide +kernel
theorem dX3_crownsPart_4 : decode cX3_crownsPart 4 = .ok (.ireturn, 1) := by decide +kernel
set_option maxRecDepth 20000 in
theorem ggX3_purity_X3_portion : GoodIn wsX3_purity wsX3_portion := goodIn_r _ [5] (by decide +kernel) (by decide +kernel)
set_option maxRecDepth 20000 in
theorem gX3_purity_X3_portion : GoodIn wsX3_purity (va_wsS RX3 214 yX3_portion wsX3_portion) := goodIn_app (goodIn_of _ (by decide +kernel)) ggX3_purity_X3_portion
theorem dX3_purity_0 : decode cX3_purity 0 = .ok (.iload_n 0, 1) := by decide +kernel
theorem dX3_purity_1 : decode cX3_purity 1 = .ok (.i2l, 1) := by decide +kernel
theorem dX3_purity_2 : decode cX3_purity 2 = .ok (.ldc2_w 327, 3) := by decide +kernel
theorem dX3_purity_5 : decode cX3_purity 5 = .ok (.iload_n 0, 1) := by decide +kernel
theorem dX3_purity_6 : decode cX3_purity 6 = .ok (.i2l, 1) := by decide +kernel
theorem dX3_purity_7 : decode cX3_purity 7 = .ok (.iload_n 1, 1) := by decide +kernel
theorem dX3_purity_8 : decode cX3_purity 8 = .ok (.i2l, 1) := by decide +kernel
theorem dX3_purity_9 : decode cX3_purity 9 = .ok (.ladd, 1) := by decide +kernel
theorem dX3_purity_10 : decode cX3_purity 10 = .ok (.invokestatic 214, 3) := by decide +kernel
theorem dX3_purity_13 : decode cX3_purity 13 = .ok (.ireturn, 1) := by decide +kernel
theorem dX3_portion_0 : decode cX3_portion 0 = .ok (.lload 4, 2) := by decide +kernel
theorem dX3_portion_2 : decode cX3_portion 2 = .ok (.lconst 1, 1) := by decide +kernel
theorem dX3_portion_3 : decode cX3_portion 3 = .ok (.lcmp, 1) := by decide +kernel
theorem dX3_portion_4 : decode cX3_portion 4 = .ok (.ifCond .ge 7, 3) := by decide +kernel
theorem dX3_portion_7 : decode cX3_portion 7 = .ok (.iconst 0, 1) := by decide +kernel
theorem dX3_portion_8 : decode cX3_portion 8 = .ok (.goto 10, 3) := by decide +kernel
theorem dX3_portion_11 : decode cX3_portion 11 = .ok (.lload_n 0, 1) := by decide +kernel
theorem dX3_portion_12 : decode cX3_portion 12 = .ok (.lload_n 2, 1) := by decide +kernel
theorem dX3_portion_13 : decode cX3_portion 13 = .ok (.lmul, 1) := by decide +kernel
theorem dX3_portion_14 : decode cX3_portion 14 = .ok (.lload 4, 2) := by decide +kernel
theorem dX3_portion_16 : decode cX3_portion 16 = .ok (.ldiv, 1) := by decide +kernel
theorem dX3_portion_17 : decode cX3_portion 17 = .ok (.l2i, 1) := by decide +kernel
theorem dX3_portion_18 : decode cX3_portion 18 = .ok (.ireturn, 1) := by decide +kernel
theorem dX3_roundedUp_0 : decode cX3_roundedUp 0 = .ok (.iload_n 1, 1) := by decide +kernel
theorem dX3_roundedUp_1 : decode cX3_roundedUp 1 = .ok (.iconst 1, 1) := by decide +kernel
theorem dX3_roundedUp_2 : decode cX3_roundedUp 2 = .ok (.if_icmp .ge 7, 3) := by decide +kernel
theorem dX3_roundedUp_5 : decode cX3_roundedUp 5 = .ok (.iconst 0, 1) := by decide +kernel
theorem dX3_roundedUp_6 : decode cX3_roundedUp 6 = .ok (.goto 10, 3) := by decide +kernel
theorem dX3_roundedUp_9 : decode cX3_roundedUp 9 = .ok (.iload_n 0, 1) := by decide +kernel
theorem dX3_roundedUp_10 : decode cX3_roundedUp 10 = .ok (.iload_n 1, 1) := by decide +kernel
theorem dX3_roundedUp_11 : decode cX3_roundedUp 11 = .ok (.iadd, 1) := by decide +kernel
theorem dX3_roundedUp_12 : decode cX3_roundedUp 12 = .ok (.iconst 1, 1) := by decide +kernel
theorem dX3_roundedUp_13 : decode cX3_roundedUp 13 = .ok (.isub, 1) := by decide +kernel
theorem dX3_roundedUp_14 : decode cX3_roundedUp 14 = .ok (.iload_n 1, 1) := by decide +kernel
theorem dX3_roundedUp_15 : decode cX3_roundedUp 15 = .ok (.idiv, 1) := by decide +kernel
theorem dX3_roundedUp_16 : decode cX3_roundedUp 16 = .ok (.ireturn, 1) := by decide +kernel
abbrev vwCl : List vw_C := [(RX0, TX0, 6), (RX1, TX1, 12), (RX2, TX2, 5), (RX3, TX3, 10)]
end
section
/-! the places of the class's kinds among the claim's; the words of private members of nest mates that its methods call -/
abbrev kX0 : Nat := 0
theorem kcX0 : vwCl[kX0]? = some (RX0, TX0, 6) := rfl
abbrev kX1 : Nat := 1
theorem kcX1 : vwCl[kX1]? = some (RX1, TX1, 12) := rfl
abbrev kX2 : Nat := 2
theorem kcX2 : vwCl[kX2]? = some (RX2, TX2, 5) := rfl
abbrev kX3 : Nat := 3
theorem kcX3 : vwCl[kX3]? = some (RX3, TX3, 10) := rfl
def sN (U : State) : Prop := va_Nw (.methodLinkNest RX2 17 yX1_init RX3) U ∧ va_Nw (.methodLinkNest RX3 25 yX0_init RX3) U ∧ va_Nw (.methodLinkNest RX2 58 yX3_tideAt RX3) U ∧ va_Nw (.methodLinkNest RX1 18 yX3_portion RX3) U ∧ va_Nw (.methodLinkNest RX2 84 yX3_portion RX3) U ∧ va_Nw (.methodLinkNest RX1 72 yX3_roundedUp RX3) U ∧ va_Nw (.methodLinkNest RX0 22 yX3_purity RX3) U
theorem sN_X2_X1_init {U : State} (h : sN U) : va_Nw (.methodLinkNest RX2 17 yX1_init RX3) U := h.1
theorem sN_X3_X0_init {U : State} (h : sN U) : va_Nw (.methodLinkNest RX3 25 yX0_init RX3) U := h.2.1
theorem sN_X2_X3_tideAt {U : State} (h : sN U) : va_Nw (.methodLinkNest RX2 58 yX3_tideAt RX3) U := h.2.2.1
theorem sN_X1_X3_portion {U : State} (h : sN U) : va_Nw (.methodLinkNest RX1 18 yX3_portion RX3) U := h.2.2.2.1
theorem sN_X2_X3_portion {U : State} (h : sN U) : va_Nw (.methodLinkNest RX2 84 yX3_portion RX3) U := h.2.2.2.2.1
theorem sN_X1_X3_roundedUp {U : State} (h : sN U) : va_Nw (.methodLinkNest RX1 72 yX3_roundedUp RX3) U := h.2.2.2.2.2.1
theorem sN_X0_X3_purity {U : State} (h : sN U) : va_Nw (.methodLinkNest RX0 22 yX3_purity RX3) U := h.2.2.2.2.2.2
theorem sN_same {u U : State} (h : u.vm = U.vm) (hN : sN u) : sN U := ⟨va_Nw.same rfl h (sN_X2_X1_init hN), va_Nw.same rfl h (sN_X3_X0_init hN), va_Nw.same rfl h (sN_X2_X3_tideAt hN), va_Nw.same rfl h (sN_X1_X3_portion hN), va_Nw.same rfl h (sN_X2_X3_portion hN), va_Nw.same rfl h (sN_X1_X3_roundedUp hN), va_Nw.same rfl h (sN_X0_X3_purity hN)⟩
theorem sN_warm {s U : State} (h : s.WarmedH U.vm) (hN : sN s) : sN U := ⟨va_Nw.warmM h (sN_X2_X1_init hN), va_Nw.warmM h (sN_X3_X0_init hN), va_Nw.warmM h (sN_X2_X3_tideAt hN), va_Nw.warmM h (sN_X1_X3_portion hN), va_Nw.warmM h (sN_X2_X3_portion hN), va_Nw.warmM h (sN_X1_X3_roundedUp hN), va_Nw.warmM h (sN_X0_X3_purity hN)⟩
end
section
/-! THE CLASS'S WORLD: 34 cells, their numbers a flat function (cell, slot): 0 the object, 1 and 2 its rows (row r is cell 1 + r), 3 and 4 their arrays of ponds, 5 + 8 r + k the pond k of row r, 21 the array of families, 22 + j the family j, 28 + j its rights. -/
abbrev sS : Type := Nat → Nat → Int32
def sPv (f : Nat → Int32) : List Value := [.int (f 0), .int (f 1), .int (f 2), .int (f 3), .int (f 4), .int (f 5), .int (f 6), .int (f 7), .int (f 8), .int (f 9), .int (f 10), .int (f 11)]
def sRv (q : Nat) (f : Nat → Int32) : List Value := [.ref q, .int (f 1), .int (f 2), .int (f 3), .int (f 4)]
def sFv (q : Nat) (f : Nat → Int32) : List Value := [.ref q, .int (f 1), .int (f 2), .int (f 3), .int (f 4), .int (f 5)]
def sOv (q0 q1 q2 : Nat) (f : Nat → Int32) : List Value := [.ref q0, .ref q1, .ref q2, .int (f 3), .int (f 4), .int (f 5), .int (f 6), .int (f 7), .int (f 8), .int (f 9)]
def sQs (g : Nat → Nat) (n : Nat) : vp_A := (n, .inr (.inr (.inr (.inr (fun k => some (g k))))))
def sE (a : Nat → Nat) (cs : Nat → ClassId) (i : Nat) (f : Nat → Int32) : va_E :=
  if i = 0 then .inr (kX3, sOv (a 1) (a 2) (a 21) f)
  else if i < 3 then .inr (kX2, sRv (a (i + 2)) f)
  else if i < 5 then .inl (cs 0, sQs (fun k => a (5 + 8 * (i - 3) + k)) 8)
  else if i < 21 then .inr (kX1, sPv f)
  else if i = 21 then .inl (cs 1, sQs (fun k => a (22 + k)) 6)
  else if i < 28 then .inr (kX0, sFv (a (i + 6)) f)
  else .inl (cs 2, 3, .inl f)
def sW (a : Nat → Nat) (cs : Nat → ClassId) (σ : sS) : va_W := (List.range 34).map (fun i => (a i, sE a cs i (σ i)))
abbrev sT (cs : Nat → ClassId) : List (ClassId × FieldType) := [(cs 0, .object "SaltRow$Pond"), (cs 1, .object "SaltRow$Family"), (cs 2, .int)]
def sA (a : Nat → Nat) (sz : Nat) : Nat → Prop := fun q => (∃ i, i < 34 ∧ q = a i) ∨ sz ≤ q
theorem sE_o {a : Nat → Nat} {cs : Nat → ClassId} {f : Nat → Int32} : sE a cs 0 f = .inr (kX3, sOv (a 1) (a 2) (a 21) f) := rfl
theorem sE_r {a : Nat → Nat} {cs : Nat → ClassId} {f : Nat → Int32} {r : Nat} (h : r < 2) : sE a cs (1 + r) f = .inr (kX2, sRv (a (3 + r)) f) := by
  rcases (show r = 0 ∨ r = 1 by omega) with rfl | rfl <;> rfl
theorem sE_q {a : Nat → Nat} {cs : Nat → ClassId} {f : Nat → Int32} {r : Nat} (h : r < 2) : sE a cs (3 + r) f = .inl (cs 0, sQs (fun k => a (5 + 8 * r + k)) 8) := by
  rcases (show r = 0 ∨ r = 1 by omega) with rfl | rfl <;> rfl
theorem sE_p {a : Nat → Nat} {cs : Nat → ClassId} {f : Nat → Int32} {i : Nat} (h : 5 ≤ i ∧ i < 21) : sE a cs i f = .inr (kX1, sPv f) := by
  unfold sE
  rw [if_neg (by omega), if_neg (by omega), if_neg (by omega), if_pos h.2]
theorem sE_g {a : Nat → Nat} {cs : Nat → ClassId} {f : Nat → Int32} : sE a cs 21 f = .inl (cs 1, sQs (fun k => a (22 + k)) 6) := rfl
theorem sE_f {a : Nat → Nat} {cs : Nat → ClassId} {f : Nat → Int32} {j : Nat} (h : j < 6) : sE a cs (22 + j) f = .inr (kX0, sFv (a (28 + j)) f) := by
  unfold sE
  rw [if_neg (by omega), if_neg (by omega), if_neg (by omega), if_neg (by omega), if_neg (by omega), if_pos (by omega), show 22 + j + 6 = 28 + j by omega]
theorem sE_h {a : Nat → Nat} {cs : Nat → ClassId} {f : Nat → Int32} {j : Nat} (h : j < 6) : sE a cs (28 + j) f = .inl (cs 2, 3, .inl f) := by
  unfold sE
  rw [if_neg (by omega), if_neg (by omega), if_neg (by omega), if_neg (by omega), if_neg (by omega), if_neg (by omega)]
theorem sW_len {a : Nat → Nat} {cs : Nat → ClassId} {σ : sS} : (sW a cs σ).length = 34 := by simp [sW]
theorem sW_get {a : Nat → Nat} {cs : Nat → ClassId} {σ : sS} {i : Nat} (h : i < 34) : (sW a cs σ)[i]? = some (a i, sE a cs i (σ i)) := by
  simp [sW, List.getElem?_map, List.getElem?_range h]
theorem sW_inv {a : Nat → Nat} {cs : Nat → ClassId} {σ : sS} {i : Nat} {q : Nat × va_E} (h : (sW a cs σ)[i]? = some q) : i < 34 ∧ q = (a i, sE a cs i (σ i)) := by
  have hi : i < 34 := by have := (List.getElem?_eq_some_iff.mp h).1; rw [sW_len] at this; exact this
  rw [sW_get hi] at h
  exact ⟨hi, (Option.some.inj h).symm⟩
theorem sW_set {a : Nat → Nat} {cs : Nat → ClassId} {σ : sS} {i : Nat} (h : i < 34) (f : Nat → Int32) : (sW a cs σ).set i (a i, sE a cs i f) = sW a cs (va_up σ i f) := by
  apply List.ext_getElem?
  intro j
  by_cases hj : j = i
  · subst hj
    rw [List.getElem?_set_self (by rw [sW_len]; exact h), sW_get h, va_up_self]
  · rw [List.getElem?_set_ne (Ne.symm hj)]
    by_cases hl : j < 34
    · rw [sW_get hl, sW_get hl, va_up_ne _ _ hj]
    · rw [List.getElem?_eq_none (by rw [sW_len]; omega), List.getElem?_eq_none (by rw [sW_len]; omega)]
theorem sA_eq {a : Nat → Nat} {cs : Nat → ClassId} {σ : sS} {sz : Nat} {q : Nat} (h : va_A (sW a cs σ) sz q) : sA a sz q := by
  rcases h with ⟨k, e, h⟩ | h
  · obtain ⟨hi, he⟩ := sW_inv h
    exact Or.inl ⟨k, hi, congrArg Prod.fst he⟩
  · exact Or.inr h
theorem sD_to {a : Nat → Nat} {cs : Nat → ClassId} {σ σ' : sS} {A : Nat → Prop} (h : va_D A (sW a cs σ)) : va_D A (sW a cs σ') := by
  refine ⟨fun i j p q hp hq e => ?_, fun k q hk => ?_⟩
  · obtain ⟨hi, rfl⟩ := sW_inv hp
    obtain ⟨hj, rfl⟩ := sW_inv hq
    exact h.1 i j _ _ (sW_get hi) (sW_get hj) e
  · obtain ⟨hi, rfl⟩ := sW_inv hk
    exact h.2 k (a k, sE a cs k (σ k)) (sW_get hi)
theorem sD_self {a : Nat → Nat} {cs : Nat → ClassId} {σ : sS} {A : Nat → Prop} {sz : Nat} (h : va_D A (sW a cs σ)) : va_D (sA a sz) (sW a cs σ) := by
  refine ⟨h.1, fun k q hk => ?_⟩
  obtain ⟨hi, rfl⟩ := sW_inv hk
  exact Or.inl ⟨k, hi, rfl⟩
/-- the world at a point of a method: what the heap holds, that the cells are apart, that nothing else changed -/
def sH (D : va_G) (a : Nat → Nat) (cs : Nat → ClassId) (A : Nat → Prop) (H0 : Heap) (σ : sS) (H : Heap) (locs : List Loc) : Prop := va_P D vwCl (sW a cs σ) H ∧ va_D A (sW a cs σ) ∧ va_S A H0 H locs
/-- a method's start -/
def sB (D : va_G) (a : Nat → Nat) (cs : Nat → ClassId) (σ : sS) (sz : Nat) (U : State) : Prop := U.heap.size = sz ∧ va_P D vwCl (sW a cs σ) U.heap ∧ va_K D vwCl (sT cs) U ∧ va_D (fun _ => True) (sW a cs σ) ∧ sN U
theorem sB_blind {D : va_G} {a : Nat → Nat} {cs : Nat → ClassId} {σ : sS} {sz : Nat} {av : List Value} : FrameBlind (va_Pc av (sB D a cs σ sz)) := fun v U g mk q => by
  obtain ⟨q0, q1, qP, qK, qD, qN⟩ := q
  exact ⟨q0, q1, qP, va_K.moved (u := U) (U := U.calling g mk v) (Vm.Alike.refl U.vm) qK, qD, sN_same (u := U) (U := U.calling g mk v) rfl qN⟩
theorem sB_of {D : va_G} {a : Nat → Nat} {cs : Nat → ClassId} {σ : sS} {A : Nat → Prop} {H0 H : Heap} {locs : List Loc} {s U : State} (hK : va_K D vwCl (sT cs) s) (hN : sN s) (hw : sH D a cs A H0 σ H locs) (hU : U.heap = H) (hW : s.WarmedH U.vm) : sB D a cs σ H.size U := ⟨by rw [hU], by rw [hU]; exact hw.1, va_K.moved hW.alike hK, hw.2.1.weaken (fun _ _ _ _ => trivial), sN_warm hW hN⟩
/-- behind a call -/
theorem sH_call {D : va_G} {a : Nat → Nat} {cs : Nat → ClassId} {σ σ' : sS} {A : Nat → Prop} {H0 H H1 : Heap} {locs locs1 : List Loc} (hw : sH D a cs A H0 σ H locs) (hP : va_P D vwCl (sW a cs σ') H1) (hS : va_S A H0 H1 locs1) : sH D a cs A H0 σ' H1 locs1 := ⟨hP, sD_to hw.2.1, hS⟩
theorem sA_sub {D : va_G} {a : Nat → Nat} {cs : Nat → ClassId} {σ : sS} {A : Nat → Prop} {H0 H : Heap} {locs : List Loc} (hw : sH D a cs A H0 σ H locs) (hA : ∀ q, H0.size ≤ q → A q) {q : Nat} (h : sA a H.size q) : A q := by
  rcases h with ⟨i, hi, rfl⟩ | h
  · exact hw.2.1.2 i _ (sW_get hi)
  · exact hA q (Nat.le_trans hw.2.2.1 h)
theorem sH_start {D : va_G} {a : Nat → Nat} {cs : Nat → ClassId} {σ : sS} {U : State} (h : sB D a cs σ U.heap.size U) : sH D a cs (sA a U.heap.size) U.heap σ U.heap [] := ⟨h.2.1, sD_self h.2.2.2.1, va_S.rf⟩
theorem sA_new {a : Nat → Nat} {sz : Nat} : ∀ q : Nat, sz ≤ q → sA a sz q := fun _ h => Or.inr h
/-- contracts over the world: answers an int, a long, nothing -/
def sMi (l : Launch) (y : MethodName) (ws : List Cond) (rm : Room) (D : va_G) (a : Nat → Nat) (cs : Nat → ClassId) (av : List Value) (σ : sS) (v : Int32) (σ' : sS) : Prop := ∀ sz : Nat, Met l y ws rm (va_Pc av (sB D a cs σ sz)) (va_Qi (fun r (_ : Unit) => r = v) (fun _ t => va_P D vwCl (sW a cs σ') t.heap) (sA a sz)) 0 0 (sA a sz)
def sMl (l : Launch) (y : MethodName) (ws : List Cond) (rm : Room) (D : va_G) (a : Nat → Nat) (cs : Nat → ClassId) (av : List Value) (σ : sS) (v : Int64) (σ' : sS) : Prop := ∀ sz : Nat, Met l y ws rm (va_Pc av (sB D a cs σ sz)) (va_Ql (fun r (_ : Unit) => r = v) (fun _ t => va_P D vwCl (sW a cs σ') t.heap) (sA a sz)) 0 0 (sA a sz)
def sMv (l : Launch) (y : MethodName) (ws : List Cond) (rm : Room) (D : va_G) (a : Nat → Nat) (cs : Nat → ClassId) (av : List Value) (σ : sS) (σ' : sS) : Prop := ∀ sz : Nat, Met l y ws rm (va_Pc av (sB D a cs σ sz)) (va_Qv (fun (_ : Unit) => True) (fun _ t => va_P D vwCl (sW a cs σ') t.heap) (sA a sz)) 0 0 (sA a sz)
theorem sPv_get {f : Nat → Int32} {k : Nat} (h : k < 12) : (sPv f)[k]? = some (.int (f k)) := by
  rcases (show k = 0 ∨ k = 1 ∨ k = 2 ∨ k = 3 ∨ k = 4 ∨ k = 5 ∨ k = 6 ∨ k = 7 ∨ k = 8 ∨ k = 9 ∨ k = 10 ∨ k = 11 by omega) with rfl | rfl | rfl | rfl | rfl | rfl | rfl | rfl | rfl | rfl | rfl | rfl <;> rfl
theorem sPv_set {f : Nat → Int32} {k : Nat} (h : k < 12) (v : Int32) : (sPv f).set k (.int v) = sPv (upd f k v) := by
  rcases (show k = 0 ∨ k = 1 ∨ k = 2 ∨ k = 3 ∨ k = 4 ∨ k = 5 ∨ k = 6 ∨ k = 7 ∨ k = 8 ∨ k = 9 ∨ k = 10 ∨ k = 11 by omega) with rfl | rfl | rfl | rfl | rfl | rfl | rfl | rfl | rfl | rfl | rfl | rfl <;> rfl
theorem sRv_get {q : Nat} {f : Nat → Int32} {k : Nat} (h : 1 ≤ k ∧ k < 5) : (sRv q f)[k]? = some (.int (f k)) := by
  rcases (show k = 1 ∨ k = 2 ∨ k = 3 ∨ k = 4 by omega) with rfl | rfl | rfl | rfl <;> rfl
theorem sRv_set {q : Nat} {f : Nat → Int32} {k : Nat} (h : 1 ≤ k ∧ k < 5) (v : Int32) : (sRv q f).set k (.int v) = sRv q (upd f k v) := by
  rcases (show k = 1 ∨ k = 2 ∨ k = 3 ∨ k = 4 by omega) with rfl | rfl | rfl | rfl <;> rfl
theorem sFv_get {q : Nat} {f : Nat → Int32} {k : Nat} (h : 1 ≤ k ∧ k < 6) : (sFv q f)[k]? = some (.int (f k)) := by
  rcases (show k = 1 ∨ k = 2 ∨ k = 3 ∨ k = 4 ∨ k = 5 by omega) with rfl | rfl | rfl | rfl | rfl <;> rfl
theorem sFv_set {q : Nat} {f : Nat → Int32} {k : Nat} (h : 1 ≤ k ∧ k < 6) (v : Int32) : (sFv q f).set k (.int v) = sFv q (upd f k v) := by
  rcases (show k = 1 ∨ k = 2 ∨ k = 3 ∨ k = 4 ∨ k = 5 by omega) with rfl | rfl | rfl | rfl | rfl <;> rfl
theorem sOv_get {x y z : Nat} {f : Nat → Int32} {k : Nat} (h : 3 ≤ k ∧ k < 10) : (sOv x y z f)[k]? = some (.int (f k)) := by
  rcases (show k = 3 ∨ k = 4 ∨ k = 5 ∨ k = 6 ∨ k = 7 ∨ k = 8 ∨ k = 9 by omega) with rfl | rfl | rfl | rfl | rfl | rfl | rfl <;> rfl
theorem sOv_set {x y z : Nat} {f : Nat → Int32} {k : Nat} (h : 3 ≤ k ∧ k < 10) (v : Int32) : (sOv x y z f).set k (.int v) = sOv x y z (upd f k v) := by
  rcases (show k = 3 ∨ k = 4 ∨ k = 5 ∨ k = 6 ∨ k = 7 ∨ k = 8 ∨ k = 9 by omega) with rfl | rfl | rfl | rfl | rfl | rfl | rfl <;> rfl
theorem sTX1 {k : Nat} (h : k < 12) : (TX1 k).1 = "SaltRow$Pond" ∧ (TX1 k).2.2.2 = false := by
  rcases (show k = 0 ∨ k = 1 ∨ k = 2 ∨ k = 3 ∨ k = 4 ∨ k = 5 ∨ k = 6 ∨ k = 7 ∨ k = 8 ∨ k = 9 ∨ k = 10 ∨ k = 11 by omega) with rfl | rfl | rfl | rfl | rfl | rfl | rfl | rfl | rfl | rfl | rfl | rfl <;> exact ⟨rfl, rfl⟩
theorem sTX1i {k : Nat} (h : k < 9) : parseFieldDescriptor (TX1 k).2.2.1 = some .int := by
  rw [tyX1_ok k (by omega)]
  rcases (show k = 0 ∨ k = 1 ∨ k = 2 ∨ k = 3 ∨ k = 4 ∨ k = 5 ∨ k = 6 ∨ k = 7 ∨ k = 8 by omega) with rfl | rfl | rfl | rfl | rfl | rfl | rfl | rfl | rfl <;> rfl
theorem sTX1z {k : Nat} (h : 9 ≤ k ∧ k < 12) : parseFieldDescriptor (TX1 k).2.2.1 = some .boolean := by
  rw [tyX1_ok k (by omega)]
  rcases (show k = 9 ∨ k = 10 ∨ k = 11 by omega) with rfl | rfl | rfl <;> rfl
theorem sTX2 {k : Nat} (h : 1 ≤ k ∧ k < 5) : (TX2 k).1 = "SaltRow$Row" ∧ (TX2 k).2.2.2 = false ∧ parseFieldDescriptor (TX2 k).2.2.1 = some .int := by
  rw [tyX2_ok k (by omega)]
  rcases (show k = 1 ∨ k = 2 ∨ k = 3 ∨ k = 4 by omega) with rfl | rfl | rfl | rfl <;> exact ⟨rfl, rfl, rfl⟩
theorem sTX0 {k : Nat} (h : 1 ≤ k ∧ k < 6) : (TX0 k).1 = "SaltRow$Family" ∧ (TX0 k).2.2.2 = false ∧ parseFieldDescriptor (TX0 k).2.2.1 = some .int := by
  rw [tyX0_ok k (by omega)]
  rcases (show k = 1 ∨ k = 2 ∨ k = 3 ∨ k = 4 ∨ k = 5 by omega) with rfl | rfl | rfl | rfl | rfl <;> exact ⟨rfl, rfl, rfl⟩
theorem sTX3 {k : Nat} (h : 3 ≤ k ∧ k < 10) : (TX3 k).1 = "SaltRow" ∧ (TX3 k).2.2.2 = false ∧ parseFieldDescriptor (TX3 k).2.2.1 = some .int := by
  rw [tyX3_ok k (by omega)]
  rcases (show k = 3 ∨ k = 4 ∨ k = 5 ∨ k = 6 ∨ k = 7 ∨ k = 8 ∨ k = 9 by omega) with rfl | rfl | rfl | rfl | rfl | rfl | rfl <;> exact ⟨rfl, rfl, rfl⟩
theorem sup_id {σ : sS} {i : Nat} : va_up σ i (σ i) = σ := by
  funext j
  by_cases h : j = i
  · subst h; exact va_up_self _ _ _
  · exact va_up_ne _ _ h
theorem sup_up {σ : sS} {i : Nat} {f g : Nat → Int32} : va_up (va_up σ i f) i g = va_up σ i g := by
  funext j
  by_cases h : j = i
  · subst h; rw [va_up_self, va_up_self]
  · rw [va_up_ne _ _ h, va_up_ne _ _ h, va_up_ne _ _ h]
section SW
variable {p : Program} {l : Launch} {e : Env} {R : Room} {s : State} {m : MethodId} {args : Array Value} {below : List Frame} {meth : Method} {c : Code} {H : Heap} {locs : List Loc} {cells slots : Nat} {Q : State → Prop}
variable {cc : ByteArray} {pc : Nat} {ls : Array Slot} {rest : List Value} {D : va_G} {A : Nat → Prop} {a : Nat → Nat} {cs : Nat → ClassId} {σ σ' : sS} {H0 : Heap}
/-- any field of the world's objects -/
theorem sg_get (hx : p.tables.exec = Jvm.exec) (hb : c.code = cc) {own ref C : String} {T : u_T} {N ci index : Nat} {Ts : List Cond} (hts : ∀ w ∈ Ts, w.before args s = true) (hin : ∀ w ∈ u_ws C T N, w ∈ Ts) (hown : s.vm.findClass own = some m.cls) (hK : va_K D vwCl (sT cs) s) (hw : sH D a cs A H0 σ H locs) {i : Nat} (hi : i < 34) {fs : List Value} (he : sE a cs i (σ i) = .inr (ci, fs)) (hc : vwCl[ci]? = some (C, T, N)) (k : Nat) (hk : k < N) (hlink : (Cond.fieldLink own index ref (T k).2.1 (T k).2.2.1).before args s = true) (hsame : (T k).1 = ref) {v : Value} (hv : fs[k]? = some v) (hdg : decode cc pc = .ok (.getfield index, 3))
    (kk : W p l e R s m args below meth c H locs cells slots Q (F0 m (pc + 3) ls (v :: rest))) : W p l e R s m args below meth c H locs cells slots Q (F0 m pc ls (.ref (a i) :: rest)) :=
  va_get hx hb hts hin hown hK hw.1 i (by rw [sW_get hi, he]) hc k hk hlink (fun x h => by rw [← hsame]; exact h) hv hdg kk
theorem sg_put (hx : p.tables.exec = Jvm.exec) (hb : c.code = cc) {own ref C : String} {T : u_T} {N ci index : Nat} {Ts : List Cond} (hts : ∀ w ∈ Ts, w.before args s = true) (hin : ∀ w ∈ u_ws C T N, w ∈ Ts) {ty0 : Nat → FieldType} (hty : ∀ k, k < N → parseFieldDescriptor (T k).2.2.1 = some (ty0 k)) (hnm : ∀ a, a < N → ∀ b, b < N → a ≠ b → (T a).2.1 ≠ (T b).2.1) (hown : s.vm.findClass own = some m.cls) (hK : va_K D vwCl (sT cs) s) (hw : sH D a cs A H0 σ H locs) {i : Nat} (hi : i < 34) {fs : List Value} (he : sE a cs i (σ i) = .inr (ci, fs)) (hc : vwCl[ci]? = some (C, T, N)) (k : Nat) (hk : k < N) (hlink : (Cond.fieldLink own index ref (T k).2.1 (T k).2.2.1).before args s = true) (hsame : (T k).1 = ref) (hfin : (T k).2.2.2 = false) {ty : FieldType} {v : Value} (hd : parseFieldDescriptor (T k).2.2.1 = some ty) (hn : narrow ty v = v) (hfit : fits ty v = true) (hl : k < fs.length) (f : Nat → Int32) (hf : sE a cs i f = .inr (ci, fs.set k v))
    (hdg : decode cc pc = .ok (.putfield index, 3)) (kk : ∀ (H1 : Heap) (locs1 : List Loc), sH D a cs A H0 (va_up σ i f) H1 locs1 → W p l e R s m args below meth c H1 locs1 cells slots Q (F0 m (pc + 3) ls rest)) : W p l e R s m args below meth c H locs cells slots Q (F0 m pc ls (v :: .ref (a i) :: rest)) :=
  va_put hx hb hts hin ty0 hty hnm hown hK hw.1 hw.2.1 hw.2.2 i (by rw [sW_get hi, he]) hc k hk hlink (fun x h => by rw [← hsame]; exact h) hfin hd hn hfit hl hdg (fun H1 locs1 hP hD hS => kk H1 locs1 ⟨by rw [← hf, sW_set hi] at hP; exact hP, by rw [← hf, sW_set hi] at hD; exact hD, hS⟩)
theorem lw_topi {x : Int32} (k : ∀ y : Int32, x = y → W p l e R s m args below meth c H locs cells slots Q (F0 m pc ls (.int y :: rest))) : W p l e R s m args below meth c H locs cells slots Q (F0 m pc ls (.int x :: rest)) := k x rfl
theorem lw_topl {x : Int64} (k : ∀ y : Int64, x = y → W p l e R s m args below meth c H locs cells slots Q (F0 m pc ls (.long y :: rest))) : W p l e R s m args below meth c H locs cells slots Q (F0 m pc ls (.long x :: rest)) := k x rfl
-- a pond's fields
theorem sg_p (hx : p.tables.exec = Jvm.exec) (hb : c.code = cc) {own : String} {index : Nat} {Ts : List Cond} (hts : ∀ w ∈ Ts, w.before args s = true) (hin : ∀ w ∈ wsX10, w ∈ Ts) (hown : s.vm.findClass own = some m.cls) (hK : va_K D vwCl (sT cs) s) (hw : sH D a cs A H0 σ H locs) {i : Nat} (hi : 5 ≤ i ∧ i < 21) (k : Nat) (hk : k < 12) (hlink : (Cond.fieldLink own index "SaltRow$Pond" (TX1 k).2.1 (TX1 k).2.2.1).before args s = true) (hdg : decode cc pc = .ok (.getfield index, 3))
    (kk : W p l e R s m args below meth c H locs cells slots Q (F0 m (pc + 3) ls (.int (σ i k) :: rest))) : W p l e R s m args below meth c H locs cells slots Q (F0 m pc ls (.ref (a i) :: rest)) :=
  sg_get hx hb hts hin hown hK hw (by omega) (sE_p hi) kcX1 k hk hlink (sTX1 hk).1 (sPv_get hk) hdg kk
theorem sp_p (hx : p.tables.exec = Jvm.exec) (hb : c.code = cc) {own : String} {index : Nat} {Ts : List Cond} (hts : ∀ w ∈ Ts, w.before args s = true) (hin : ∀ w ∈ wsX10, w ∈ Ts) (hown : s.vm.findClass own = some m.cls) (hK : va_K D vwCl (sT cs) s) (hw : sH D a cs A H0 σ H locs) {i : Nat} (hi : 5 ≤ i ∧ i < 21) (k : Nat) {v : Int32} (hk : k < 9) (hlink : (Cond.fieldLink own index "SaltRow$Pond" (TX1 k).2.1 (TX1 k).2.2.1).before args s = true) (hdg : decode cc pc = .ok (.putfield index, 3))
    (kk : ∀ (H1 : Heap) (locs1 : List Loc), sH D a cs A H0 (va_up σ i (upd (σ i) k v)) H1 locs1 → W p l e R s m args below meth c H1 locs1 cells slots Q (F0 m (pc + 3) ls rest)) : W p l e R s m args below meth c H locs cells slots Q (F0 m pc ls (.int v :: .ref (a i) :: rest)) :=
  sg_put hx hb hts hin tyX1_ok nmX1 hown hK hw (by omega) (sE_p hi) kcX1 k (by omega) hlink (sTX1 (by omega)).1 (sTX1 (by omega)).2 (sTX1i hk) rfl rfl (by show k < 12; omega) _ (by rw [sE_p hi, sPv_set (by omega)]) hdg kk
theorem sp_z (hx : p.tables.exec = Jvm.exec) (hb : c.code = cc) {own : String} {index : Nat} {Ts : List Cond} (hts : ∀ w ∈ Ts, w.before args s = true) (hin : ∀ w ∈ wsX10, w ∈ Ts) (hown : s.vm.findClass own = some m.cls) (hK : va_K D vwCl (sT cs) s) (hw : sH D a cs A H0 σ H locs) {i : Nat} (hi : 5 ≤ i ∧ i < 21) (k : Nat) {v : Int32} (hz : v = 0 ∨ v = 1) (hk : 9 ≤ k ∧ k < 12) (hlink : (Cond.fieldLink own index "SaltRow$Pond" (TX1 k).2.1 (TX1 k).2.2.1).before args s = true) (hdg : decode cc pc = .ok (.putfield index, 3))
    (kk : ∀ (H1 : Heap) (locs1 : List Loc), sH D a cs A H0 (va_up σ i (upd (σ i) k v)) H1 locs1 → W p l e R s m args below meth c H1 locs1 cells slots Q (F0 m (pc + 3) ls rest)) : W p l e R s m args below meth c H locs cells slots Q (F0 m pc ls (.int v :: .ref (a i) :: rest)) :=
  sg_put hx hb hts hin tyX1_ok nmX1 hown hK hw (by omega) (sE_p hi) kcX1 k (by omega) hlink (sTX1 (by omega)).1 (sTX1 (by omega)).2 (sTX1z hk) (by rcases hz with rfl | rfl <;> rfl) (by rcases hz with rfl | rfl <;> rfl) (by show k < 12; omega) _ (by rw [sE_p hi, sPv_set (by omega)]) hdg kk
-- the pond in focus: its numbers are f, the others' σ's
theorem sg_pf (hx : p.tables.exec = Jvm.exec) (hb : c.code = cc) {own : String} {index : Nat} {Ts : List Cond} (hts : ∀ w ∈ Ts, w.before args s = true) (hin : ∀ w ∈ wsX10, w ∈ Ts) (hown : s.vm.findClass own = some m.cls) (hK : va_K D vwCl (sT cs) s) {i : Nat} {f : Nat → Int32} (hw : sH D a cs A H0 (va_up σ i f) H locs) (hi : 5 ≤ i ∧ i < 21) (k : Nat) (v : Int32) (hv : f k = v) (hk : k < 12) (hlink : (Cond.fieldLink own index "SaltRow$Pond" (TX1 k).2.1 (TX1 k).2.2.1).before args s = true) (hdg : decode cc pc = .ok (.getfield index, 3))
    (kk : W p l e R s m args below meth c H locs cells slots Q (F0 m (pc + 3) ls (.int v :: rest))) : W p l e R s m args below meth c H locs cells slots Q (F0 m pc ls (.ref (a i) :: rest)) :=
  sg_p hx hb hts hin hown hK hw hi k hk hlink hdg (by rw [va_up_self, hv]; exact kk)
theorem sg_pn (hx : p.tables.exec = Jvm.exec) (hb : c.code = cc) {own : String} {index : Nat} {Ts : List Cond} (hts : ∀ w ∈ Ts, w.before args s = true) (hin : ∀ w ∈ wsX10, w ∈ Ts) (hown : s.vm.findClass own = some m.cls) (hK : va_K D vwCl (sT cs) s) {i j : Nat} {f : Nat → Int32} (hw : sH D a cs A H0 (va_up σ i f) H locs) (hj : 5 ≤ j ∧ j < 21) (hij : j ≠ i) (k : Nat) (hk : k < 12) (hlink : (Cond.fieldLink own index "SaltRow$Pond" (TX1 k).2.1 (TX1 k).2.2.1).before args s = true) (hdg : decode cc pc = .ok (.getfield index, 3))
    (kk : W p l e R s m args below meth c H locs cells slots Q (F0 m (pc + 3) ls (.int (σ j k) :: rest))) : W p l e R s m args below meth c H locs cells slots Q (F0 m pc ls (.ref (a j) :: rest)) :=
  sg_p hx hb hts hin hown hK hw hj k hk hlink hdg (by rw [va_up_ne _ _ hij]; exact kk)
theorem sp_pf (hx : p.tables.exec = Jvm.exec) (hb : c.code = cc) {own : String} {index : Nat} {Ts : List Cond} (hts : ∀ w ∈ Ts, w.before args s = true) (hin : ∀ w ∈ wsX10, w ∈ Ts) (hown : s.vm.findClass own = some m.cls) (hK : va_K D vwCl (sT cs) s) {i : Nat} {f : Nat → Int32} (hw : sH D a cs A H0 (va_up σ i f) H locs) (hi : 5 ≤ i ∧ i < 21) (k : Nat) {v : Int32} (hk : k < 9) (hlink : (Cond.fieldLink own index "SaltRow$Pond" (TX1 k).2.1 (TX1 k).2.2.1).before args s = true) (hdg : decode cc pc = .ok (.putfield index, 3))
    (kk : ∀ (H1 : Heap) (locs1 : List Loc), sH D a cs A H0 (va_up σ i (upd f k v)) H1 locs1 → W p l e R s m args below meth c H1 locs1 cells slots Q (F0 m (pc + 3) ls rest)) : W p l e R s m args below meth c H locs cells slots Q (F0 m pc ls (.int v :: .ref (a i) :: rest)) :=
  sp_p hx hb hts hin hown hK hw hi k hk hlink hdg (fun H1 locs1 h => kk H1 locs1 (by rw [va_up_self, sup_up] at h; exact h))
theorem sp_zf (hx : p.tables.exec = Jvm.exec) (hb : c.code = cc) {own : String} {index : Nat} {Ts : List Cond} (hts : ∀ w ∈ Ts, w.before args s = true) (hin : ∀ w ∈ wsX10, w ∈ Ts) (hown : s.vm.findClass own = some m.cls) (hK : va_K D vwCl (sT cs) s) {i : Nat} {f : Nat → Int32} (hw : sH D a cs A H0 (va_up σ i f) H locs) (hi : 5 ≤ i ∧ i < 21) (k : Nat) {v : Int32} (hz : v = 0 ∨ v = 1) (hk : 9 ≤ k ∧ k < 12) (hlink : (Cond.fieldLink own index "SaltRow$Pond" (TX1 k).2.1 (TX1 k).2.2.1).before args s = true) (hdg : decode cc pc = .ok (.putfield index, 3))
    (kk : ∀ (H1 : Heap) (locs1 : List Loc), sH D a cs A H0 (va_up σ i (upd f k v)) H1 locs1 → W p l e R s m args below meth c H1 locs1 cells slots Q (F0 m (pc + 3) ls rest)) : W p l e R s m args below meth c H locs cells slots Q (F0 m pc ls (.int v :: .ref (a i) :: rest)) :=
  sp_z hx hb hts hin hown hK hw hi k hz hk hlink hdg (fun H1 locs1 h => kk H1 locs1 (by rw [va_up_self, sup_up] at h; exact h))
-- a row's fields
theorem sg_rq (hx : p.tables.exec = Jvm.exec) (hb : c.code = cc) {own : String} {index : Nat} {Ts : List Cond} (hts : ∀ w ∈ Ts, w.before args s = true) (hin : ∀ w ∈ wsX20, w ∈ Ts) (hown : s.vm.findClass own = some m.cls) (hK : va_K D vwCl (sT cs) s) (hw : sH D a cs A H0 σ H locs) {r : Nat} (hr : r < 2) (hlink : (Cond.fieldLink own index "SaltRow$Row" "ponds" "[LSaltRow$Pond;").before args s = true) (hdg : decode cc pc = .ok (.getfield index, 3))
    (kk : W p l e R s m args below meth c H locs cells slots Q (F0 m (pc + 3) ls (.ref (a (3 + r)) :: rest))) : W p l e R s m args below meth c H locs cells slots Q (F0 m pc ls (.ref (a (1 + r)) :: rest)) :=
  sg_get hx hb hts hin hown hK hw (by omega) (sE_r hr) kcX2 0 (by omega) hlink rfl rfl hdg kk
theorem sg_r (hx : p.tables.exec = Jvm.exec) (hb : c.code = cc) {own : String} {index : Nat} {Ts : List Cond} (hts : ∀ w ∈ Ts, w.before args s = true) (hin : ∀ w ∈ wsX20, w ∈ Ts) (hown : s.vm.findClass own = some m.cls) (hK : va_K D vwCl (sT cs) s) (hw : sH D a cs A H0 σ H locs) {r : Nat} (hr : r < 2) (k : Nat) (hk : 1 ≤ k ∧ k < 5) (hlink : (Cond.fieldLink own index "SaltRow$Row" (TX2 k).2.1 (TX2 k).2.2.1).before args s = true) (hdg : decode cc pc = .ok (.getfield index, 3))
    (kk : W p l e R s m args below meth c H locs cells slots Q (F0 m (pc + 3) ls (.int (σ (1 + r) k) :: rest))) : W p l e R s m args below meth c H locs cells slots Q (F0 m pc ls (.ref (a (1 + r)) :: rest)) :=
  sg_get hx hb hts hin hown hK hw (by omega) (sE_r hr) kcX2 k (by omega) hlink (sTX2 hk).1 (sRv_get hk) hdg kk
theorem sp_r (hx : p.tables.exec = Jvm.exec) (hb : c.code = cc) {own : String} {index : Nat} {Ts : List Cond} (hts : ∀ w ∈ Ts, w.before args s = true) (hin : ∀ w ∈ wsX20, w ∈ Ts) (hown : s.vm.findClass own = some m.cls) (hK : va_K D vwCl (sT cs) s) (hw : sH D a cs A H0 σ H locs) {r : Nat} (hr : r < 2) (k : Nat) {v : Int32} (hk : 1 ≤ k ∧ k < 5) (hlink : (Cond.fieldLink own index "SaltRow$Row" (TX2 k).2.1 (TX2 k).2.2.1).before args s = true) (hdg : decode cc pc = .ok (.putfield index, 3))
    (kk : ∀ (H1 : Heap) (locs1 : List Loc), sH D a cs A H0 (va_up σ (1 + r) (upd (σ (1 + r)) k v)) H1 locs1 → W p l e R s m args below meth c H1 locs1 cells slots Q (F0 m (pc + 3) ls rest)) : W p l e R s m args below meth c H locs cells slots Q (F0 m pc ls (.int v :: .ref (a (1 + r)) :: rest)) :=
  sg_put hx hb hts hin tyX2_ok nmX2 hown hK hw (by omega) (sE_r hr) kcX2 k (by omega) hlink (sTX2 hk).1 (sTX2 hk).2.1 (sTX2 hk).2.2 rfl rfl (by show k < 5; omega) _ (by rw [sE_r hr, sRv_set hk]) hdg kk
-- a family's fields
theorem sg_fq (hx : p.tables.exec = Jvm.exec) (hb : c.code = cc) {own : String} {index : Nat} {Ts : List Cond} (hts : ∀ w ∈ Ts, w.before args s = true) (hin : ∀ w ∈ wsX00, w ∈ Ts) (hown : s.vm.findClass own = some m.cls) (hK : va_K D vwCl (sT cs) s) (hw : sH D a cs A H0 σ H locs) {j : Nat} (hj : j < 6) (hlink : (Cond.fieldLink own index "SaltRow$Family" "rights" "[I").before args s = true) (hdg : decode cc pc = .ok (.getfield index, 3))
    (kk : W p l e R s m args below meth c H locs cells slots Q (F0 m (pc + 3) ls (.ref (a (28 + j)) :: rest))) : W p l e R s m args below meth c H locs cells slots Q (F0 m pc ls (.ref (a (22 + j)) :: rest)) :=
  sg_get hx hb hts hin hown hK hw (by omega) (sE_f hj) kcX0 0 (by omega) hlink rfl rfl hdg kk
theorem sg_f (hx : p.tables.exec = Jvm.exec) (hb : c.code = cc) {own : String} {index : Nat} {Ts : List Cond} (hts : ∀ w ∈ Ts, w.before args s = true) (hin : ∀ w ∈ wsX00, w ∈ Ts) (hown : s.vm.findClass own = some m.cls) (hK : va_K D vwCl (sT cs) s) (hw : sH D a cs A H0 σ H locs) {j : Nat} (hj : j < 6) (k : Nat) (hk : 1 ≤ k ∧ k < 6) (hlink : (Cond.fieldLink own index "SaltRow$Family" (TX0 k).2.1 (TX0 k).2.2.1).before args s = true) (hdg : decode cc pc = .ok (.getfield index, 3))
    (kk : W p l e R s m args below meth c H locs cells slots Q (F0 m (pc + 3) ls (.int (σ (22 + j) k) :: rest))) : W p l e R s m args below meth c H locs cells slots Q (F0 m pc ls (.ref (a (22 + j)) :: rest)) :=
  sg_get hx hb hts hin hown hK hw (by omega) (sE_f hj) kcX0 k (by omega) hlink (sTX0 hk).1 (sFv_get hk) hdg kk
theorem sp_f (hx : p.tables.exec = Jvm.exec) (hb : c.code = cc) {own : String} {index : Nat} {Ts : List Cond} (hts : ∀ w ∈ Ts, w.before args s = true) (hin : ∀ w ∈ wsX00, w ∈ Ts) (hown : s.vm.findClass own = some m.cls) (hK : va_K D vwCl (sT cs) s) (hw : sH D a cs A H0 σ H locs) {j : Nat} (hj : j < 6) (k : Nat) {v : Int32} (hk : 1 ≤ k ∧ k < 6) (hlink : (Cond.fieldLink own index "SaltRow$Family" (TX0 k).2.1 (TX0 k).2.2.1).before args s = true) (hdg : decode cc pc = .ok (.putfield index, 3))
    (kk : ∀ (H1 : Heap) (locs1 : List Loc), sH D a cs A H0 (va_up σ (22 + j) (upd (σ (22 + j)) k v)) H1 locs1 → W p l e R s m args below meth c H1 locs1 cells slots Q (F0 m (pc + 3) ls rest)) : W p l e R s m args below meth c H locs cells slots Q (F0 m pc ls (.int v :: .ref (a (22 + j)) :: rest)) :=
  sg_put hx hb hts hin tyX0_ok nmX0 hown hK hw (by omega) (sE_f hj) kcX0 k (by omega) hlink (sTX0 hk).1 (sTX0 hk).2.1 (sTX0 hk).2.2 rfl rfl (by show k < 6; omega) _ (by rw [sE_f hj, sFv_set hk]) hdg kk
-- the object's fields
theorem sg_oq (hx : p.tables.exec = Jvm.exec) (hb : c.code = cc) {own : String} {index : Nat} {Ts : List Cond} (hts : ∀ w ∈ Ts, w.before args s = true) (hin : ∀ w ∈ wsX30, w ∈ Ts) (hown : s.vm.findClass own = some m.cls) (hK : va_K D vwCl (sT cs) s) (hw : sH D a cs A H0 σ H locs) (k : Nat) {v : Nat} (hv : (k = 0 ∧ v = a 1) ∨ (k = 1 ∧ v = a 2) ∨ (k = 2 ∧ v = a 21)) (hlink : (Cond.fieldLink own index "SaltRow" (TX3 k).2.1 (TX3 k).2.2.1).before args s = true) (hdg : decode cc pc = .ok (.getfield index, 3))
    (kk : W p l e R s m args below meth c H locs cells slots Q (F0 m (pc + 3) ls (.ref v :: rest))) : W p l e R s m args below meth c H locs cells slots Q (F0 m pc ls (.ref (a 0) :: rest)) := by
  rcases hv with ⟨rfl, rfl⟩ | ⟨rfl, rfl⟩ | ⟨rfl, rfl⟩
  · exact sg_get hx hb hts hin hown hK hw (by omega) sE_o kcX3 0 (by omega) hlink rfl rfl hdg kk
  · exact sg_get hx hb hts hin hown hK hw (by omega) sE_o kcX3 1 (by omega) hlink rfl rfl hdg kk
  · exact sg_get hx hb hts hin hown hK hw (by omega) sE_o kcX3 2 (by omega) hlink rfl rfl hdg kk
theorem sg_o (hx : p.tables.exec = Jvm.exec) (hb : c.code = cc) {own : String} {index : Nat} {Ts : List Cond} (hts : ∀ w ∈ Ts, w.before args s = true) (hin : ∀ w ∈ wsX30, w ∈ Ts) (hown : s.vm.findClass own = some m.cls) (hK : va_K D vwCl (sT cs) s) (hw : sH D a cs A H0 σ H locs) (k : Nat) (hk : 3 ≤ k ∧ k < 10) (hlink : (Cond.fieldLink own index "SaltRow" (TX3 k).2.1 (TX3 k).2.2.1).before args s = true) (hdg : decode cc pc = .ok (.getfield index, 3))
    (kk : W p l e R s m args below meth c H locs cells slots Q (F0 m (pc + 3) ls (.int (σ 0 k) :: rest))) : W p l e R s m args below meth c H locs cells slots Q (F0 m pc ls (.ref (a 0) :: rest)) :=
  sg_get hx hb hts hin hown hK hw (by omega) sE_o kcX3 k (by omega) hlink (sTX3 hk).1 (sOv_get hk) hdg kk
theorem sp_o (hx : p.tables.exec = Jvm.exec) (hb : c.code = cc) {own : String} {index : Nat} {Ts : List Cond} (hts : ∀ w ∈ Ts, w.before args s = true) (hin : ∀ w ∈ wsX30, w ∈ Ts) (hown : s.vm.findClass own = some m.cls) (hK : va_K D vwCl (sT cs) s) (hw : sH D a cs A H0 σ H locs) (k : Nat) {v : Int32} (hk : 3 ≤ k ∧ k < 10) (hlink : (Cond.fieldLink own index "SaltRow" (TX3 k).2.1 (TX3 k).2.2.1).before args s = true) (hdg : decode cc pc = .ok (.putfield index, 3))
    (kk : ∀ (H1 : Heap) (locs1 : List Loc), sH D a cs A H0 (va_up σ 0 (upd (σ 0) k v)) H1 locs1 → W p l e R s m args below meth c H1 locs1 cells slots Q (F0 m (pc + 3) ls rest)) : W p l e R s m args below meth c H locs cells slots Q (F0 m pc ls (.int v :: .ref (a 0) :: rest)) :=
  sg_put hx hb hts hin tyX3_ok nmX3 hown hK hw (by omega) sE_o kcX3 k (by omega) hlink (sTX3 hk).1 (sTX3 hk).2.1 (sTX3 hk).2.2 rfl rfl (by show k < 10; omega) _ (by rw [sE_o, sOv_set hk]) hdg kk
-- arrays
theorem sg_q (hx : p.tables.exec = Jvm.exec) (hb : c.code = cc) (hK : va_K D vwCl (sT cs) s) (hw : sH D a cs A H0 σ H locs) {r k : Nat} {i : Int32} (hr : r < 2) (hk : k < 8) (hi : i = nI k) (hdg : decode cc pc = .ok (.aaload, 1))
    (kk : W p l e R s m args below meth c H locs cells slots Q (F0 m (pc + 1) ls (.ref (a (5 + 8 * r + k)) :: rest))) : W p l e R s m args below meth c H locs cells slots Q (F0 m pc ls (.int i :: .ref (a (3 + r)) :: rest)) := by
  subst hi
  refine va_aldq hx hb hK hw.1 (3 + r) 0 (by rw [sW_get (by omega), sE_q hr]; rfl) rfl (vp_in_nI hk (by omega)) hdg ?_
  rw [nI_clamp (by omega)]
  exact kk
theorem sg_g (hx : p.tables.exec = Jvm.exec) (hb : c.code = cc) (hK : va_K D vwCl (sT cs) s) (hw : sH D a cs A H0 σ H locs) {k : Nat} {i : Int32} (hk : k < 6) (hi : i = nI k) (hdg : decode cc pc = .ok (.aaload, 1))
    (kk : W p l e R s m args below meth c H locs cells slots Q (F0 m (pc + 1) ls (.ref (a (22 + k)) :: rest))) : W p l e R s m args below meth c H locs cells slots Q (F0 m pc ls (.int i :: .ref (a 21) :: rest)) := by
  subst hi
  refine va_aldq hx hb hK hw.1 21 1 (by rw [sW_get (by omega), sE_g]; rfl) rfl (vp_in_nI hk (by omega)) hdg ?_
  rw [nI_clamp (by omega)]
  exact kk
theorem sg_h (hx : p.tables.exec = Jvm.exec) (hb : c.code = cc) (hK : va_K D vwCl (sT cs) s) (hw : sH D a cs A H0 σ H locs) {j k : Nat} {i : Int32} (hj : j < 6) (hk : k < 3) (hi : i = nI k) (hdg : decode cc pc = .ok (.iaload, 1))
    (kk : W p l e R s m args below meth c H locs cells slots Q (F0 m (pc + 1) ls (.int (σ (28 + j) k) :: rest))) : W p l e R s m args below meth c H locs cells slots Q (F0 m pc ls (.int i :: .ref (a (28 + j)) :: rest)) := by
  subst hi
  refine va_iald hx hb hK hw.1 (28 + j) 2 (by rw [sW_get (by omega), sE_h hj]) rfl (vp_in_nI hk (by omega)) hdg ?_
  rw [nI_clamp (by omega)]
  exact kk
theorem sp_h (hx : p.tables.exec = Jvm.exec) (hb : c.code = cc) (hK : va_K D vwCl (sT cs) s) (hw : sH D a cs A H0 σ H locs) {j k : Nat} {i v : Int32} (hj : j < 6) (hk : k < 3) (hi : i = nI k) (hdg : decode cc pc = .ok (.iastore, 1))
    (kk : ∀ (H1 : Heap) (locs1 : List Loc), sH D a cs A H0 (va_up σ (28 + j) (upd (σ (28 + j)) k v)) H1 locs1 → W p l e R s m args below meth c H1 locs1 cells slots Q (F0 m (pc + 1) ls rest)) : W p l e R s m args below meth c H locs cells slots Q (F0 m pc ls (.int v :: .int i :: .ref (a (28 + j)) :: rest)) := by
  subst hi
  refine va_iast hx hb hK hw.1 hw.2.1 hw.2.2 (28 + j) 2 (by rw [sW_get (by omega), sE_h hj]) rfl (vp_in_nI hk (by omega)) hdg (fun H1 locs1 hP hD hS => ?_)
  rw [nI_clamp (by omega), ← sE_h (a := a) (cs := cs) hj, sW_set (by omega)] at hP hD
  exact kk H1 locs1 ⟨hP, hD, hS⟩
-- calls: the run of a callee, and what goes on
theorem sr_V {own C : String} {y : MethodName} {bytes : ByteArray} {maxL nL n index : Nat} {ret : Option FieldType} {ws : List Cond} {rm : Room} {Qc : Array Value → State → Outcome → State → Prop} {free : Addr → Prop} {Ts : List Cond} {As : List Value} {i ci N : Nat} {T : u_T} {fs : List Value}
    (S : CallFix p m c cc nL s args Ts own) (hM : Met l y ws rm (va_Pc (.ref (a i) :: As) (sB D a cs σ H.size)) Qc 0 0 free) (cw : CallW R s args own C index y bytes maxL ret ws rm 0 0 n) (hK : va_K D vwCl (sT cs) s) (hN : sN s) (hw : sH D a cs A H0 σ H locs) (hi : i < 34) (he : sE a cs i (σ i) = .inr (ci, fs)) (hc : vwCl[ci]? = some (C, T, N)) (hn : As.length = n) (hsize : ls.size = nL) (hW : (rest.map fun v => v.category).sum ≤ 8) (hdg : decode cc pc = .ok (.invokevirtual index, 3)) (hf : cells ≤ R.cells ∧ slots ≤ R.slots) :
    va_Run p l e R s m args below meth c H locs cells slots 0 0 (F0 m pc ls (As.reverse ++ .ref (a i) :: rest)) rest (Qc (Value.ref (a i) :: As).toArray) free :=
  va_runV S hM cw ⟨sB_blind, va_recv hK hw.1 hc (by rw [sW_get hi, he]), fun U hU hW => ⟨rfl, sB_of hK hN hw hU hW⟩⟩ rfl hn hsize rfl (lv_room hW) hdg hf
theorem sr_S {own : String} {y : MethodName} {bytes : ByteArray} {maxL nL n index : Nat} {ret : Option FieldType} {ws : List Cond} {rm : Room} {Qc : Array Value → State → Outcome → State → Prop} {free : Addr → Prop} {Ts : List Cond} {As : List Value}
    (S : CallFix p m c cc nL s args Ts own) (hM : Met l y ws rm (va_Pc As (sB D a cs σ H.size)) Qc 0 0 free) (cw : CallB R s args own index y bytes maxL ret ws rm 0 0 n ∧ (Cond.static y).before args s = true) (hK : va_K D vwCl (sT cs) s) (hN : sN s) (hw : sH D a cs A H0 σ H locs) (hn : As.length = n) (hsize : ls.size = nL) (hW : (rest.map fun v => v.category).sum ≤ 8) (hdg : decode cc pc = .ok (.invokestatic index, 3)) (hf : cells ≤ R.cells ∧ slots ≤ R.slots) :
    va_Run p l e R s m args below meth c H locs cells slots 0 0 (F0 m pc ls (As.reverse ++ rest)) rest (Qc As.toArray) free :=
  va_runS S hM cw ⟨sB_blind, fun U hU hW => ⟨rfl, sB_of hK hN hw hU hW⟩⟩ rfl hn hsize rfl (lv_room hW) hdg hf
theorem sr_N {own host : String} {y : MethodName} {bytes : ByteArray} {maxL nL n index : Nat} {ret : Option FieldType} {ws : List Cond} {rm : Room} {Qc : Array Value → State → Outcome → State → Prop} {free : Addr → Prop} {Ts : List Cond} {As : List Value}
    (S : CallFix p m c cc nL s args Ts own) (hM : Met l y ws rm (va_Pc As (sB D a cs σ H.size)) Qc 0 0 free) (cw : va_CN R s args own index y host bytes maxL ret ws rm 0 0 n) (hst : (Cond.static y).before args s = true) (hK : va_K D vwCl (sT cs) s) (hN : sN s) (hw : sH D a cs A H0 σ H locs) (hn : As.length = n) (hsize : ls.size = nL) (hW : (rest.map fun v => v.category).sum ≤ 8) (hdg : decode cc pc = .ok (.invokestatic index, 3)) (hf : cells ≤ R.cells ∧ slots ≤ R.slots) :
    va_Run p l e R s m args below meth c H locs cells slots 0 0 (F0 m pc ls (As.reverse ++ rest)) rest (Qc As.toArray) free :=
  va_runSN S hM ⟨cw, hst, trivial⟩ ⟨sB_blind, fun U hU hW => ⟨rfl, sB_of hK hN hw hU hW⟩⟩ rfl hn hsize rfl (lv_room hW) hdg hf
theorem sc_i {st0 : List Value} {av : Array Value} {v : Int32} (hr : va_Run p l e R s m args below meth c H locs cells slots 0 0 (F0 m pc ls st0) rest (va_Qi (fun r (_ : Unit) => r = v) (fun _ t => va_P D vwCl (sW a cs σ') t.heap) (sA a H.size) av) (sA a H.size)) (hw : sH D a cs A H0 σ H locs) (hA : ∀ q, H0.size ≤ q → A q)
    (kk : ∀ (H1 : Heap) (locs1 : List Loc), sH D a cs A H0 σ' H1 locs1 → W p l e R s m args below meth c H1 locs1 cells slots Q (F0 m (pc + 3) ls (.int v :: rest))) : W p l e R s m args below meth c H locs cells slots Q (F0 m pc ls st0) :=
  va_calli hr hw.2.2 (fun q _ h => sA_sub hw hA h) (fun q h => sA_sub hw hA h) (fun r u t H1 locs1 ht _ hr hB _ _ hS => by subst hr; rw [ht] at hB; exact kk H1 locs1 (sH_call hw hB hS))
theorem sc_l {st0 : List Value} {av : Array Value} {v : Int64} (hr : va_Run p l e R s m args below meth c H locs cells slots 0 0 (F0 m pc ls st0) rest (va_Ql (fun r (_ : Unit) => r = v) (fun _ t => va_P D vwCl (sW a cs σ') t.heap) (sA a H.size) av) (sA a H.size)) (hw : sH D a cs A H0 σ H locs) (hA : ∀ q, H0.size ≤ q → A q)
    (kk : ∀ (H1 : Heap) (locs1 : List Loc), sH D a cs A H0 σ' H1 locs1 → W p l e R s m args below meth c H1 locs1 cells slots Q (F0 m (pc + 3) ls (.long v :: rest))) : W p l e R s m args below meth c H locs cells slots Q (F0 m pc ls st0) :=
  va_calll hr hw.2.2 (fun q _ h => sA_sub hw hA h) (fun q h => sA_sub hw hA h) (fun r u t H1 locs1 ht _ hr hB _ _ hS => by subst hr; rw [ht] at hB; exact kk H1 locs1 (sH_call hw hB hS))
theorem sc_v {st0 : List Value} {av : Array Value} (hr : va_Run p l e R s m args below meth c H locs cells slots 0 0 (F0 m pc ls st0) rest (va_Qv (fun (_ : Unit) => True) (fun _ t => va_P D vwCl (sW a cs σ') t.heap) (sA a H.size) av) (sA a H.size)) (hw : sH D a cs A H0 σ H locs) (hA : ∀ q, H0.size ≤ q → A q)
    (kk : ∀ (H1 : Heap) (locs1 : List Loc), sH D a cs A H0 σ' H1 locs1 → W p l e R s m args below meth c H1 locs1 cells slots Q (F0 m (pc + 3) ls rest)) : W p l e R s m args below meth c H locs cells slots Q (F0 m pc ls st0) :=
  va_callv hr hw.2.2 (fun q _ h => sA_sub hw hA h) (fun q h => sA_sub hw hA h) (fun u t H1 locs1 ht _ _ hB _ _ hS => by rw [ht] at hB; exact kk H1 locs1 (sH_call hw hB hS))
-- a method's end
theorem se_i (hx : p.tables.exec = Jvm.exec) (hb : c.code = cc) (hr : meth.sig.returnType = some .int) (hlocks : meth.locks = false) (hw : sH D a cs (sA a s.heap.size) s.heap σ H locs) {v v' : Int32} (hv : v = v') (hσ : σ = σ') (hdg : decode cc pc = .ok (.ireturn, 1)) : W p l e R s m args below meth c H locs cells slots (MQ below (va_Qi (fun r (_ : Unit) => r = v') (fun _ t => va_P D vwCl (sW a cs σ') t.heap) (sA a s.heap.size)) args s cells slots (sA a s.heap.size)) (F0 m pc ls [.int v]) := by
  subst hv; subst hσ
  exact W.iret hx hb hr (fun t ht hW => ⟨⟨v, (), rfl, rfl, by show va_P D vwCl (sW a cs σ) t.heap; rw [ht]; exact hw.1⟩, hw.2.2.F ht⟩) hw.2.2.2.2 hdg hlocks
theorem se_z (hx : p.tables.exec = Jvm.exec) (hb : c.code = cc) (hr : meth.sig.returnType = some .boolean) (hlocks : meth.locks = false) (hw : sH D a cs (sA a s.heap.size) s.heap σ H locs) {v v' : Int32} (hz : v = 0 ∨ v = 1) (hv : v = v') (hσ : σ = σ') (hdg : decode cc pc = .ok (.ireturn, 1)) : W p l e R s m args below meth c H locs cells slots (MQ below (va_Qi (fun r (_ : Unit) => r = v') (fun _ t => va_P D vwCl (sW a cs σ') t.heap) (sA a s.heap.size)) args s cells slots (sA a s.heap.size)) (F0 m pc ls [.int v]) := by
  subst hv; subst hσ
  exact W.zret hx hb hr (by rcases hz with rfl | rfl <;> rfl) (fun t ht hW => ⟨⟨v, (), rfl, rfl, by show va_P D vwCl (sW a cs σ) t.heap; rw [ht]; exact hw.1⟩, hw.2.2.F ht⟩) hw.2.2.2.2 hdg hlocks
theorem se_l (hx : p.tables.exec = Jvm.exec) (hb : c.code = cc) (hr : meth.sig.returnType = some .long) (hlocks : meth.locks = false) (hw : sH D a cs (sA a s.heap.size) s.heap σ H locs) {v v' : Int64} (hv : v = v') (hσ : σ = σ') (hdg : decode cc pc = .ok (.lreturn, 1)) : W p l e R s m args below meth c H locs cells slots (MQ below (va_Ql (fun r (_ : Unit) => r = v') (fun _ t => va_P D vwCl (sW a cs σ') t.heap) (sA a s.heap.size)) args s cells slots (sA a s.heap.size)) (F0 m pc ls [.long v]) := by
  subst hv; subst hσ
  exact W.lret hx hb hr (fun t ht hW => ⟨⟨v, (), rfl, rfl, by show va_P D vwCl (sW a cs σ) t.heap; rw [ht]; exact hw.1⟩, hw.2.2.F ht⟩) hw.2.2.2.2 hdg hlocks
theorem se_v (hx : p.tables.exec = Jvm.exec) (hb : c.code = cc) (hr : meth.sig.returnType = none) (hlocks : meth.locks = false) (hw : sH D a cs (sA a s.heap.size) s.heap σ H locs) (hσ : σ = σ') (hdg : decode cc pc = .ok (.return_, 1)) : W p l e R s m args below meth c H locs cells slots (MQ below (va_Qv (fun (_ : Unit) => True) (fun _ t => va_P D vwCl (sW a cs σ') t.heap) (sA a s.heap.size)) args s cells slots (sA a s.heap.size)) (F0 m pc ls []) := by
  subst hσ
  exact W.vret hx hb hr (fun t ht hW => ⟨⟨(), rfl, trivial, by show va_P D vwCl (sW a cs σ) t.heap; rw [ht]; exact hw.1⟩, hw.2.2.F ht⟩) hw.2.2.2.2 hdg hlocks
theorem se_vw (hx : p.tables.exec = Jvm.exec) (hb : c.code = cc) (hr : meth.sig.returnType = none) (hlocks : meth.locks = false) (hw : sH D a cs (sA a s.heap.size) s.heap σ H locs) (hσ : sW a cs σ = sW a cs σ') (hdg : decode cc pc = .ok (.return_, 1)) : W p l e R s m args below meth c H locs cells slots (MQ below (va_Qv (fun (_ : Unit) => True) (fun _ t => va_P D vwCl (sW a cs σ') t.heap) (sA a s.heap.size)) args s cells slots (sA a s.heap.size)) (F0 m pc ls []) := by
  exact W.vret hx hb hr (fun t ht hW => ⟨⟨(), rfl, trivial, by show va_P D vwCl (sW a cs σ') t.heap; rw [ht, ← hσ]; exact hw.1⟩, hw.2.2.F ht⟩) hw.2.2.2.2 hdg hlocks
end SW
/-- a cell's numbers beyond its fields don't count -/
theorem sW_up {a : Nat → Nat} {cs : Nat → ClassId} {σ : sS} {i : Nat} {f g : Nat → Int32} (h : sE a cs i f = sE a cs i g) : sW a cs (va_up σ i f) = sW a cs (va_up σ i g) := by
  apply List.ext_getElem?
  intro j
  by_cases hl : j < 34
  · rw [sW_get hl, sW_get hl]
    by_cases hj : j = i
    · subst hj; rw [va_up_self, va_up_self, h]
    · rw [va_up_ne _ _ hj, va_up_ne _ _ hj]
  · rw [List.getElem?_eq_none (by rw [sW_len]; omega), List.getElem?_eq_none (by rw [sW_len]; omega)]
theorem sW_pond {a : Nat → Nat} {cs : Nat → ClassId} {σ : sS} {i : Nat} {f g : Nat → Int32} (hi : 5 ≤ i ∧ i < 21) (h : sPv f = sPv g) : sW a cs (va_up σ i f) = sW a cs (va_up σ i g) := sW_up (by rw [sE_p hi, sE_p hi, h])
end
section
/-! What the class's methods answer and change, in its own order of steps: numbers as the machine has them. -/
abbrev f_min (x y : Int32) : Int32 := if y < x then y else x
abbrev f_max (x y : Int32) : Int32 := if x < y then y else x
abbrev f_abs (x : Int32) : Int32 := if 0 ≤ x then x else 0 - x
abbrev f_rem (x y : Int32) : Int32 := x - x / y * y
abbrev f_lmax (x y : Int64) : Int64 := if y < x then x else y
theorem lg_ne0 {z : Int64} (h : 0 ≤ lg_cmp z 1) : ¬ z = 0 := by
  intro e
  subst e
  exact absurd h (by decide)
theorem li_ne0 {z : Int32} (h : 1 ≤ z) : ¬ z = 0 := by
  intro e
  subst e
  exact absurd h (by decide)
theorem nI_dec (n : Nat) : nI (n + 1) + Int32.ofInt (-1) = nI n := by
  have h := nI_pred n
  rw [Int32.sub_eq_add_neg] at h
  exact h
theorem sH_foc {D : va_G} {a : Nat → Nat} {cs : Nat → ClassId} {σ : sS} {A : Nat → Prop} {H0 H : Heap} {locs : List Loc} {i : Nat} (hw : sH D a cs A H0 σ H locs) : sH D a cs A H0 (va_up σ i (σ i)) H locs := by rw [sup_id]; exact hw
theorem sH_unf {D : va_G} {a : Nat → Nat} {cs : Nat → ClassId} {σ : sS} {A : Nat → Prop} {H0 H : Heap} {locs : List Loc} {i : Nat} (hw : sH D a cs A H0 (va_up σ i (σ i)) H locs) : sH D a cs A H0 σ H locs := by rw [sup_id] at hw; exact hw
def f_X3_portion (x y z : Int64) : Int32 := if 0 ≤ lg_cmp z 1 then (x * y / z).toInt32 else 0
def f_X3_roundedUp (x y : Int32) : Int32 := if 1 ≤ y then (x + y - 1) / y else 0
def f_X3_tideAt (x : Int32) : Int32 := 2 + f_abs (f_rem x 14 - 7)
def f_X3_crownsPart (x : Int32) : Int32 := x / 10
def f_X3_purity (x y : Int32) : Int32 := f_X3_portion x.toInt64 100 (x.toInt64 + y.toInt64)
def f_X1_level (f : Nat → Int32) : Int32 := f_X3_portion (f 1).toInt64 1 (f 0).toInt64
def f_X1_strength (f : Nat → Int32) : Int32 := f_min 90 (f_X3_portion ((f 2).toInt64 + (f 4).toInt64) 1 (5 * (f 1).toInt64))
def f_X1_loseAllBrine (f : Nat → Int32) : Nat → Int32 := upd (upd (upd (upd f 1 0) 2 0) 3 0) 4 0
def f_X1_takeIn (f : Nat → Int32) (b s0 g t0 : Int32) : Nat → Int32 := upd (upd (upd (upd f 1 (f 1 + b)) 2 (f 2 + s0)) 3 (f 3 + g)) 4 (f 4 + t0)
def f_X1_rainFalls (f : Nat → Int32) (x : Int32) : Nat → Int32 := if f 10 = 0 then upd f 5 (f 5 + x * f 0 / 10) else f
def f_X1_dryOut (f : Nat → Int32) (x : Int32) : Nat → Int32 :=
  upd (upd f 5 (f 5 - f_min (f 5) (f 0 * x / 10))) 1 (f 1 - f_min (f 1 / 2) (f_X3_roundedUp ((f 0 * x - 10 * f_min (f 5) (f 0 * x / 10)) * (100 - f_X1_strength (upd f 5 (f 5 - f_min (f 5) (f 0 * x / 10))))) 1000))
def f_X1_mixFresh (f : Nat → Int32) : Nat → Int32 :=
  upd (upd (upd (upd f 5 (f 5 - f_X3_roundedUp (f 5) 2)) 1 (f 1 + f_X3_roundedUp (f 5) 2)) 6 (f 6 - f_min (f 6) (4 * f_X3_roundedUp (f 5) 2))) 2 (f 2 + f_min (f 6) (4 * f_X3_roundedUp (f 5) 2))
def f_X1_above (f : Nat → Int32) (x y : Int32) : Int32 := (f_lmax 0 (x.toInt64 - y.toInt64 * (f 1).toInt64)).toInt32
def f_X1_dropMinerals (f : Nat → Int32) : Nat → Int32 :=
  upd (upd (upd (upd (upd (upd f 8 (f_X1_above f (f 2) 300)) 3 (f 3 - f_X1_above f (f 3) 8)) 2 (f 2 - f_X1_above f (f 2) 300)) 4 (f 4 - f_X1_above f (f 4) 200)) 6 (f 6 + f_X1_above f (f 2) 300)) 7 (f 7 + (f_X1_above f (f 3) 8 + f_X1_above f (f 4) 200))
def f_X1_canBeHarvested (f : Nat → Int32) : Int32 := if f 6 ≤ 0 then 0 else if f 11 = 0 then 1 else 0
def f_X1_saltOfHarvest (f : Nat → Int32) (x : Int32) : Int32 := if x = 0 then f_min (f 6) (200 * f 0) else f 6
def f_X1_dirtOfCrustWith (f : Nat → Int32) (x : Int32) : Int32 := f_X3_portion (f 7).toInt64 x.toInt64 (f 6).toInt64
def f_X1_dirtOfFloor (f : Nat → Int32) (x : Int32) : Int32 := if x = 0 then 0 else 10 * f 0
def f_X1_harv (f : Nat → Int32) : Int32 := if f 11 = 0 then 0 else 1
def f_X1_read (f : Nat → Int32) : Nat → Int32
  | 8 => f_X1_level f
  | 9 => f_X1_strength f
  | 10 => f_X1_harv f
  | k => f k
def f_X1_giveBrine (σ : sS) (i j : Nat) (x : Int32) : sS :=
  va_up (va_up σ i (f_X1_takeIn (σ i) (-x) (-f_X3_portion (σ i 2).toInt64 x.toInt64 (σ i 1).toInt64) (-f_X3_portion (σ i 3).toInt64 x.toInt64 (σ i 1).toInt64) (-f_X3_portion (σ i 4).toInt64 x.toInt64 (σ i 1).toInt64))) j
    (f_X1_takeIn (va_up σ i (f_X1_takeIn (σ i) (-x) (-f_X3_portion (σ i 2).toInt64 x.toInt64 (σ i 1).toInt64) (-f_X3_portion (σ i 3).toInt64 x.toInt64 (σ i 1).toInt64) (-f_X3_portion (σ i 4).toInt64 x.toInt64 (σ i 1).toInt64)) j) x (f_X3_portion (σ i 2).toInt64 x.toInt64 (σ i 1).toInt64) (f_X3_portion (σ i 3).toInt64 x.toInt64 (σ i 1).toInt64) (f_X3_portion (σ i 4).toInt64 x.toInt64 (σ i 1).toInt64))
/-- the sea's brine into row r's first pond -/
def f_X2_sea (σ : sS) (r : Nat) (x : Int32) : sS :=
  va_up (va_up σ (5 + 8 * r + 0) (f_X1_takeIn (σ (5 + 8 * r + 0)) x (30 * x) (2 * x) (6 * x))) (1 + r)
    (upd (va_up σ (5 + 8 * r + 0) (f_X1_takeIn (σ (5 + 8 * r + 0)) x (30 * x) (2 * x) (6 * x)) (1 + r)) 4 (va_up σ (5 + 8 * r + 0) (f_X1_takeIn (σ (5 + 8 * r + 0)) x (30 * x) (2 * x) (6 * x)) (1 + r) 4 + 30 * x))
def f_X2_seaD (σ : sS) (r : Nat) : Int32 := 10 * f_X3_tideAt (σ (1 + r) 1) - f_X1_level (σ (5 + 8 * r + 0))
def f_X2_letSeaIn (σ : sS) (r : Nat) : sS :=
  if σ (5 + 8 * r + 0) 9 = 0 then σ else if 10 * f_X3_tideAt (σ (1 + r) 1) - f_X1_level (σ (5 + 8 * r + 0)) ≤ 0 then σ else f_X2_sea σ r ((10 * f_X3_tideAt (σ (1 + r) 1) - f_X1_level (σ (5 + 8 * r + 0))) * σ (5 + 8 * r + 0) 0 / 4)
def f_X2_flowStep (σ : sS) (r n : Nat) : sS :=
  if σ (5 + 8 * r + (n + 1)) 9 = 0 then σ else if f_X1_level (σ (5 + 8 * r + n)) - f_X1_level (σ (5 + 8 * r + (n + 1))) ≤ 0 then σ
  else f_X1_giveBrine σ (5 + 8 * r + n) (5 + 8 * r + (n + 1)) (f_X3_portion (f_X1_level (σ (5 + 8 * r + n)) - f_X1_level (σ (5 + 8 * r + (n + 1)))).toInt64 (f_min (σ (5 + 8 * r + n) 0) (σ (5 + 8 * r + (n + 1)) 0)).toInt64 2)
def f_X2_flow (r : Nat) : Nat → sS → sS
  | 0, σ => σ
  | n + 1, σ => f_X2_flow r n (f_X2_flowStep σ r n)
def f_X2_letBrineFlowOn (σ : sS) (r : Nat) : sS := f_X2_flow r 7 σ
/-- pond k's part of a day -/
def f_X2_pond (σ : sS) (r k : Nat) (z : Int32) : sS :=
  let p := 5 + 8 * r + k
  let τ := va_up σ p (upd (σ p) 11 0)
  let τ := va_up τ p (f_X1_rainFalls (τ p) z)
  let τ := va_up τ p (f_X1_dryOut (τ p) (τ (1 + r) 2 + τ (1 + r) 3))
  let τ := va_up τ p (f_X1_mixFresh (τ p))
  va_up τ p (f_X1_dropMinerals (τ p))
def f_X2_ponds (r : Nat) (z : Int32) : Nat → Nat → sS → sS
  | 0, _, σ => σ
  | n + 1, k, σ => f_X2_ponds r z n (k + 1) (f_X2_pond σ r k z)
def f_X2_start (σ : sS) (r : Nat) (x y : Int32) : sS :=
  let τ := va_up σ (1 + r) (upd (σ (1 + r)) 1 (σ (1 + r) 1 + 1))
  let τ := va_up τ (1 + r) (upd (τ (1 + r)) 2 x)
  va_up τ (1 + r) (upd (τ (1 + r)) 3 y)
def f_X2_letDayGoBy (σ : sS) (r : Nat) (x y z : Int32) : sS := f_X2_ponds r z 8 0 (f_X2_letBrineFlowOn (f_X2_letSeaIn (f_X2_start σ r x y) r) r)
def f_bit (x : Int32) (k : Nat) : Int32 := if (x >>> (nI k &&& 31)) &&& 1 = 1 then 1 else 0
def f_X2_gates (r : Nat) (x : Int32) : Nat → Nat → sS → sS
  | 0, _, σ => σ
  | n + 1, k, σ => f_X2_gates r x n (k + 1) (va_up σ (5 + 8 * r + k) (upd (σ (5 + 8 * r + k)) 9 (f_bit x k)))
def f_X2_setGates (σ : sS) (r : Nat) (x : Int32) : sS := f_X2_gates r x 8 0 σ
def f_gbit (x : Int32) (k : Nat) : Int32 := if x = 0 then 0 else 1 <<< (nI k &&& 31)
def f_X2_gsum (r : Nat) (σ : sS) : Nat → Nat → Int32 → Int32
  | 0, _, v => v
  | n + 1, k, v => f_X2_gsum r σ n (k + 1) (v + f_gbit (σ (5 + 8 * r + k) 9) k)
def f_X2_openGates (σ : sS) (r : Nat) : Int32 := f_X2_gsum r σ 8 0 0
def f_X2_csum (r : Nat) (σ : sS) : Nat → Nat → Int32 → Int32
  | 0, _, v => v
  | n + 1, k, v => f_X2_csum r σ n (k + 1) (v + f_gbit (σ (5 + 8 * r + k) 10) k)
def f_X2_coveredPans (σ : sS) (r : Nat) : Int32 := f_X2_csum r σ 8 0 0
def f_X2_fsum (r : Nat) (σ : sS) : Nat → Nat → Int32 → Int32
  | 0, _, v => v
  | n + 1, k, v => f_X2_fsum r σ n (k + 1) (v + σ (5 + 8 * r + k) 8)
def f_X2_saltFallenInPans (σ : sS) (r : Nat) : Int32 := f_X2_fsum r σ 3 5 0
def f_X2_ssum (r : Nat) (σ : sS) : Nat → Nat → Int32 → Int32
  | 0, _, v => v
  | n + 1, k, v => f_X2_ssum r σ n (k + 1) (v + (σ (5 + 8 * r + k) 2 + σ (5 + 8 * r + k) 6))
def f_X2_saltInPans (σ : sS) (r : Nat) : Int32 := f_X2_ssum r σ 3 5 0
theorem nI_sub5 (q : Nat) : nI (5 + q) - 5 = nI q := by
  rw [show nI (5 + q) = nI q + nI 5 by rw [nI_add, Nat.add_comm], show (5 : Int32) = nI 5 from rfl]
  exact Int32.add_sub_cancel _ _
theorem sH_w {D : va_G} {a : Nat → Nat} {cs : Nat → ClassId} {σ σ' : sS} {A : Nat → Prop} {H0 H : Heap} {locs : List Loc} (h : sW a cs σ = sW a cs σ') (hw : sH D a cs A H0 σ H locs) : sH D a cs A H0 σ' H locs := ⟨by rw [← h]; exact hw.1, sD_to hw.2.1, hw.2.2⟩
def f_X2_psum (w r : Nat) (σ : sS) : Nat → Nat → Int32 → Int32
  | 0, _, v => v
  | n + 1, k, v => f_X2_psum w r σ n (k + 1) (v + f_X1_read (σ (5 + 8 * r + k)) w)
def f_X2_sumOfPonds (σ : sS) (r w : Nat) : Int32 := f_X2_psum w r σ 8 0 0
/-- the booleans of row 0's ponds are 0 or 1 -/
def sZ (σ : sS) : Prop := ∀ k, k < 8 → ∀ q, 9 ≤ q → q < 12 → σ (5 + 8 * 0 + k) q = 0 ∨ σ (5 + 8 * 0 + k) q = 1
theorem sZ_up {σ : sS} {i : Nat} {f : Nat → Int32} (h : sZ σ) (hi : i < 5 ∨ 13 ≤ i) : sZ (va_up σ i f) := fun k hk q h1 h2 => by
  rw [va_up_ne _ _ (by omega)]
  exact h k hk q h1 h2
def f_X2_cp : Nat → Nat → sS → sS
  | 0, _, σ => σ
  | n + 1, k, σ => f_X2_cp n (k + 1) (va_up σ (5 + 8 * 1 + k) (σ (5 + 8 * 0 + k)))
/-- row 1 as row 0 is -/
def f_X2_copyFrom (σ : sS) : sS := f_X2_cp 8 0 (va_up σ 2 (σ 1))
def f_X0_read (f : Nat → Int32) : Nat → Int32
  | 0 => f 1
  | 1 => f 2
  | 2 => f_X3_purity (f 1) (f 2)
  | k => f k
def f_X0_getSalt (σ : sS) (j : Nat) (x y : Int32) : sS :=
  let τ := va_up σ (22 + j) (upd (σ (22 + j)) 1 (σ (22 + j) 1 + x))
  let τ := va_up τ (22 + j) (upd (τ (22 + j)) 2 (τ (22 + j) 2 + y))
  va_up τ (22 + j) (upd (τ (22 + j)) 4 (τ (22 + j) 4 + x))
theorem f_X0_getSalt_at {σ : sS} {j : Nat} {x y : Int32} {i k : Nat} (h : i < 22) : f_X0_getSalt σ j x y i k = σ i k := by
  unfold f_X0_getSalt
  rw [va_up_ne _ _ (by omega), va_up_ne _ _ (by omega), va_up_ne _ _ (by omega)]
def f_X0_sellSalt (σ : sS) (j : Nat) (x y : Int32) : sS :=
  let τ := va_up σ (22 + j) (upd (σ (22 + j)) 2 (σ (22 + j) 2 - f_X3_portion (σ (22 + j) 2).toInt64 x.toInt64 (σ (22 + j) 1).toInt64))
  let τ := va_up τ (22 + j) (upd (τ (22 + j)) 1 (τ (22 + j) 1 - x))
  let τ := va_up τ (22 + j) (upd (τ (22 + j)) 5 (τ (22 + j) 5 + x))
  va_up τ (22 + j) (upd (τ (22 + j)) 3 (τ (22 + j) 3 + y))
def f_X3_skim (σ : sS) (k : Nat) : sS :=
  let τ := va_up σ (5 + 8 * 0 + k) (upd (σ (5 + 8 * 0 + k)) 5 0)
  va_up τ 0 (upd (τ 0) 4 (τ 0 4 + σ (5 + 8 * 0 + k) 5))
def f_X3_familyV (σ : sS) : Int32 := va_up σ 0 (upd (σ 0) 3 (σ 0 3 + 1)) 0 3 - 1
def f_X3_rsum (q : Nat) (σ : sS) : Nat → Nat → Int32 → Int32
  | 0, _, v => v
  | n + 1, k, v => f_X3_rsum q σ n (k + 1) (v + σ (28 + k) q)
def f_X3_rightsIn (σ : sS) (q fc : Nat) : Int32 := f_X3_rsum q σ fc 0 0
def f_X3_hsum (w : Nat) (σ : sS) : Nat → Nat → Int32 → Int32
  | 0, _, v => v
  | n + 1, k, v => f_X3_hsum w σ n (k + 1) (v + f_X0_read (σ (22 + k)) w)
def f_X3_sumOfFamilies (σ : sS) (w fc : Nat) : Int32 := f_X3_hsum w σ fc 0 0
def f_X3_part (x : Int32) (σ : sS) (k q : Nat) : Int32 := f_X3_portion x.toInt64 (σ (28 + k) q).toInt64 12
def f_X3_so (q : Nat) (x y : Int32) : Nat → Nat → sS → sS
  | 0, _, σ => σ
  | n + 1, k, σ => f_X3_so q x y n (k + 1) (f_X0_getSalt σ k (f_X3_portion x.toInt64 (σ (28 + k) q).toInt64 12) (f_X3_portion y.toInt64 (σ (28 + k) q).toInt64 12))
def f_X3_soS (q : Nat) (x y : Int32) : Nat → Nat → sS → Int32 → Int32
  | 0, _, _, v => v
  | n + 1, k, σ, v => f_X3_soS q x y n (k + 1) (f_X0_getSalt σ k (f_X3_portion x.toInt64 (σ (28 + k) q).toInt64 12) (f_X3_portion y.toInt64 (σ (28 + k) q).toInt64 12)) (v - f_X3_portion x.toInt64 (σ (28 + k) q).toInt64 12)
def f_X3_soD (q : Nat) (x y : Int32) : Nat → Nat → sS → Int32 → Int32
  | 0, _, _, v => v
  | n + 1, k, σ, v => f_X3_soD q x y n (k + 1) (f_X0_getSalt σ k (f_X3_portion x.toInt64 (σ (28 + k) q).toInt64 12) (f_X3_portion y.toInt64 (σ (28 + k) q).toInt64 12)) (v - f_X3_portion y.toInt64 (σ (28 + k) q).toInt64 12)
def f_X3_shareOut (σ : sS) (q fc : Nat) (x y : Int32) : sS :=
  let τ := f_X3_so q x y fc 0 σ
  let τ' := va_up τ 0 (upd (τ 0) 7 (τ 0 7 + f_X3_soS q x y fc 0 σ x))
  va_up τ' 0 (upd (τ' 0) 8 (τ' 0 8 + f_X3_soD q x y fc 0 σ y))
def f_X3_harvest (σ : sS) (q fc : Nat) (x : Int32) : sS :=
  let p := 5 + 8 * 0 + (5 + q)
  let τ1 := va_up σ p (upd (σ p) 6 (σ p 6 - f_X1_saltOfHarvest (σ p) x))
  let τ2 := va_up τ1 p (upd (τ1 p) 7 (τ1 p 7 - f_X1_dirtOfCrustWith (σ p) (f_X1_saltOfHarvest (σ p) x)))
  let τ3 := va_up τ2 p (upd (τ2 p) 11 1)
  let τ4 := va_up τ3 0 (upd (τ3 0) 6 (τ3 0 6 + f_X3_crownsPart (f_X1_saltOfHarvest (σ p) x)))
  f_X3_shareOut τ4 q fc (f_X1_saltOfHarvest (σ p) x - f_X3_crownsPart (f_X1_saltOfHarvest (σ p) x)) (f_X1_dirtOfCrustWith (σ p) (f_X1_saltOfHarvest (σ p) x) + f_X1_dirtOfFloor (σ p) x)
def f_X3_wash (σ : sS) (j : Nat) : sS :=
  let τ1 := va_up σ (22 + j) (upd (σ (22 + j)) 2 (σ (22 + j) 2 - f_X3_roundedUp (σ (22 + j) 2) 2))
  let τ2 := va_up τ1 (22 + j) (upd (τ1 (22 + j)) 1 (τ1 (22 + j) 1 - f_X3_roundedUp (σ (22 + j) 1) 20))
  va_up τ2 0 (upd (τ2 0) 5 (τ2 0 5 + f_X3_roundedUp (σ (22 + j) 1) 20))
def f_X3_washV (σ : sS) (j : Nat) : Int32 := f_X3_purity (f_X3_wash σ j (22 + j) 1) (f_X3_wash σ j (22 + j) 2)
def f_X3_days (r : Nat) (x y z : Int32) : Nat → sS → sS
  | 0, σ => σ
  | n + 1, σ => f_X3_days r x y z n (f_X2_letDayGoBy σ r x y z)
def f_X3_fell (x y z : Int32) : Nat → sS → Int32 → Int32
  | 0, _, v => v
  | n + 1, σ, v => f_X3_fell x y z n (f_X2_letDayGoBy σ 0 x y z) (v + f_X2_saltFallenInPans (f_X2_letDayGoBy σ 0 x y z) 0)
end
section
set_option maxHeartbeats 4000000 in
set_option maxRecDepth 100000 in
theorem zX3_portion (l : Launch) (D : va_G) (a : Nat → Nat) (cs : Nat → ClassId) (σ : sS) (x : Int64) (y : Int64) (z : Int64) : sMi l yX3_portion wsX3_portion ({ frames := 0, cells := 0, slots := 0, locals := 0 }) D a cs [.long x, .long y, .long z] σ (f_X3_portion x y z) σ := by
  intro sz
  refine Met.ofW (cc := cX3_portion) (maxL := 6) (ret := (some .int)) (by decide) rfl ?_
  intro p e s m args below meth c s₁ B hml hv
  obtain ⟨rfl, hsz, hv2⟩ := hv
  have hv3 : sB D a cs σ sz s := ⟨hsz, hv2⟩
  subst hsz
  have hw := sH_start hv3
  obtain ⟨-, -, hK, -, hN⟩ := hv3
  have hx := B.exec
  have hb := B.bytes
  have hr := B.returns
  have hts := atoms_spec (ws := wsX3_portion) B.pre
  have hown : s.vm.findClass RX3 = some m.cls := findClass_of_methodNamed B.named
  have hlocks := B.notSynchronized
  have hA : ∀ q : Nat, s.heap.size ≤ q → sA a s.heap.size q := sA_new
  have hl := lv_entry ([.long x, .long y, .long z]) (n := 6) (Nat.le_of_ble_eq_true rfl)
  rw [lg_entry_eq]
  generalize (lg_sl ([.long x, .long y, .long z]) ++ List.replicate (6 - (lg_sl ([.long x, .long y, .long z])).length) Slot.unset).toArray = ls at hl ⊢
  have hl : lv_has ls 6 [(0, .long x), (2, .long y), (4, .long z)] := hl
  refine lv_lload hx hb dX3_portion_0 (lv_at hl 2 rfl) ?_
  refine lv_lconst (v := 1) hx hb dX3_portion_2 (by decide) ?_
  refine W.lcmp hx hb dX3_portion_3 ?_
  refine lv_if_ge (tgt := 11) hx hb dX3_portion_4 (by decide) (fun c1 => ?_) (fun c1 => ?_)
  · refine lv_lload_n hx hb dX3_portion_11 rfl (lv_at hl 0 rfl) ?_
    refine lv_lload_n hx hb dX3_portion_12 rfl (lv_at hl 1 rfl) ?_
    refine lv_lmul hx hb dX3_portion_13 ?_
    refine lv_lload hx hb dX3_portion_14 (lv_at hl 2 rfl) ?_
    refine lv_ldiv hx hb dX3_portion_16 (lg_ne0 c1) ?_
    refine lv_l2i hx hb dX3_portion_17 rfl ?_
    exact se_i hx hb hr hlocks hw (by unfold f_X3_portion; rw [if_pos c1] <;> rfl) (by rfl) dX3_portion_18
  · refine lv_iconst (v := 0) hx hb dX3_portion_7 (by decide) ?_
    refine lv_goto (tgt := 18) hx hb dX3_portion_8 (by decide) ?_
    exact se_i hx hb hr hlocks hw (by unfold f_X3_portion; rw [if_neg c1] <;> rfl) (by rfl) dX3_portion_18
set_option maxHeartbeats 4000000 in
set_option maxRecDepth 100000 in
theorem zX3_roundedUp (l : Launch) (D : va_G) (a : Nat → Nat) (cs : Nat → ClassId) (σ : sS) (x : Int32) (y : Int32) : sMi l yX3_roundedUp wsX3_roundedUp ({ frames := 0, cells := 0, slots := 0, locals := 0 }) D a cs [.int x, .int y] σ (f_X3_roundedUp x y) σ := by
  intro sz
  refine Met.ofW (cc := cX3_roundedUp) (maxL := 2) (ret := (some .int)) (by decide) rfl ?_
  intro p e s m args below meth c s₁ B hml hv
  obtain ⟨rfl, hsz, hv2⟩ := hv
  have hv3 : sB D a cs σ sz s := ⟨hsz, hv2⟩
  subst hsz
  have hw := sH_start hv3
  obtain ⟨-, -, hK, -, hN⟩ := hv3
  have hx := B.exec
  have hb := B.bytes
  have hr := B.returns
  have hts := atoms_spec (ws := wsX3_roundedUp) B.pre
  have hown : s.vm.findClass RX3 = some m.cls := findClass_of_methodNamed B.named
  have hlocks := B.notSynchronized
  have hA : ∀ q : Nat, s.heap.size ≤ q → sA a s.heap.size q := sA_new
  have hl := lv_entry ([.int x, .int y]) (n := 2) (Nat.le_of_ble_eq_true rfl)
  rw [lg_entry_eq]
  generalize (lg_sl ([.int x, .int y]) ++ List.replicate (2 - (lg_sl ([.int x, .int y])).length) Slot.unset).toArray = ls at hl ⊢
  have hl : lv_has ls 2 [(0, .int x), (1, .int y)] := hl
  refine lv_iload_n hx hb dX3_roundedUp_0 rfl (lv_at hl 1 rfl) ?_
  refine lv_iconst (v := 1) hx hb dX3_roundedUp_1 (by decide) ?_
  refine lv_icmp_ge (tgt := 9) hx hb dX3_roundedUp_2 (by decide) (fun c1 => ?_) (fun c1 => ?_)
  · refine lv_iload_n hx hb dX3_roundedUp_9 rfl (lv_at hl 0 rfl) ?_
    refine lv_iload_n hx hb dX3_roundedUp_10 rfl (lv_at hl 1 rfl) ?_
    refine lv_iadd hx hb dX3_roundedUp_11 ?_
    refine lv_iconst (v := 1) hx hb dX3_roundedUp_12 (by decide) ?_
    refine lv_isub hx hb dX3_roundedUp_13 ?_
    refine lv_iload_n hx hb dX3_roundedUp_14 rfl (lv_at hl 1 rfl) ?_
    refine lv_idiv hx hb dX3_roundedUp_15 (li_ne0 c1) ?_
    exact se_i hx hb hr hlocks hw (by unfold f_X3_roundedUp; rw [if_pos c1] <;> rfl) (by rfl) dX3_roundedUp_16
  · refine lv_iconst (v := 0) hx hb dX3_roundedUp_5 (by decide) ?_
    refine lv_goto (tgt := 16) hx hb dX3_roundedUp_6 (by decide) ?_
    exact se_i hx hb hr hlocks hw (by unfold f_X3_roundedUp; rw [if_neg c1] <;> rfl) (by rfl) dX3_roundedUp_16
theorem mX3_tideAt_0 : (Cond.methodLink RX3 324 Lib.Math.abs.name) ∈ wsX3_tideAt := by decide +kernel
theorem mX3_tideAt_1 : (Cond.static Lib.Math.abs.name) ∈ wsX3_tideAt := by decide +kernel
theorem mX3_tideAt_2 : (Cond.initialized "java/lang/Math") ∈ wsX3_tideAt := by decide +kernel
theorem mX3_tideAt_3 : (Cond.code Lib.Math.abs.name Lib.Math.abs.code 1 (some .int)) ∈ wsX3_tideAt := by decide +kernel
set_option maxHeartbeats 4000000 in
set_option maxRecDepth 100000 in
theorem zX3_tideAt (l : Launch) (D : va_G) (a : Nat → Nat) (cs : Nat → ClassId) (σ : sS) (x : Int32) : sMi l yX3_tideAt wsX3_tideAt ({ frames := 1, cells := 0, slots := 0, locals := 25 }) D a cs [.int x] σ (f_X3_tideAt x) σ := by
  intro sz
  refine Met.ofW (cc := cX3_tideAt) (maxL := 1) (ret := (some .int)) (by decide) rfl ?_
  intro p e s m args below meth c s₁ B hml hv
  obtain ⟨rfl, hsz, hv2⟩ := hv
  have hv3 : sB D a cs σ sz s := ⟨hsz, hv2⟩
  subst hsz
  have hw := sH_start hv3
  obtain ⟨-, -, hK, -, hN⟩ := hv3
  have hx := B.exec
  have hb := B.bytes
  have hr := B.returns
  have hts := atoms_spec (ws := wsX3_tideAt) B.pre
  have hown : s.vm.findClass RX3 = some m.cls := findClass_of_methodNamed B.named
  have hlocks := B.notSynchronized
  have hA : ∀ q : Nat, s.heap.size ≤ q → sA a s.heap.size q := sA_new
  have hl := lv_entry ([.int x]) (n := 1) (Nat.le_of_ble_eq_true rfl)
  rw [lg_entry_eq]
  generalize (lg_sl ([.int x]) ++ List.replicate (1 - (lg_sl ([.int x])).length) Slot.unset).toArray = ls at hl ⊢
  have hl : lv_has ls 1 [(0, .int x)] := hl
  refine lv_iconst (v := 2) hx hb dX3_tideAt_0 (by decide) ?_
  refine lv_iload_n hx hb dX3_tideAt_1 rfl (lv_at hl 0 rfl) ?_
  refine lv_bipush (v := 14) hx hb dX3_tideAt_2 (by decide) ?_
  refine lv_irem hx hb dX3_tideAt_4 (by decide) ?_
  refine lv_bipush (v := 7) hx hb dX3_tideAt_5 (by decide) ?_
  refine lv_isub hx hb dX3_tideAt_7 ?_
  refine va_mabs hx hb (hml.trans hl.1.symm) hown (hts _ mX3_tideAt_0) (hts _ mX3_tideAt_1) (hts _ mX3_tideAt_2) (hts _ mX3_tideAt_3) (Nat.le_of_ble_eq_true rfl) (Nat.le_of_ble_eq_true rfl) (Nat.le_of_ble_eq_true rfl) (Nat.le_of_ble_eq_true rfl) dX3_tideAt_8 ?_
  refine lw_topi (fun x1 ex1 => ?_)
  refine lv_iadd hx hb dX3_tideAt_11 ?_
  exact se_i hx hb hr hlocks hw (by subst ex1; exact rfl) (by subst ex1; rfl) dX3_tideAt_12
set_option maxHeartbeats 4000000 in
set_option maxRecDepth 100000 in
theorem zX3_crownsPart (l : Launch) (D : va_G) (a : Nat → Nat) (cs : Nat → ClassId) (σ : sS) (x : Int32) : sMi l yX3_crownsPart wsX3_crownsPart ({ frames := 0, cells := 0, slots := 0, locals := 0 }) D a cs [.int x] σ (f_X3_crownsPart x) σ := by
  intro sz
  refine Met.ofW (cc := cX3_crownsPart) (maxL := 1) (ret := (some .int)) (by decide) rfl ?_
  intro p e s m args below meth c s₁ B hml hv
  obtain ⟨rfl, hsz, hv2⟩ := hv
  have hv3 : sB D a cs σ sz s := ⟨hsz, hv2⟩
  subst hsz
  have hw := sH_start hv3
  obtain ⟨-, -, hK, -, hN⟩ := hv3
  have hx := B.exec
  have hb := B.bytes
  have hr := B.returns
  have hts := atoms_spec (ws := wsX3_crownsPart) B.pre
  have hown : s.vm.findClass RX3 = some m.cls := findClass_of_methodNamed B.named
  have hlocks := B.notSynchronized
  have hA : ∀ q : Nat, s.heap.size ≤ q → sA a s.heap.size q := sA_new
  have hl := lv_entry ([.int x]) (n := 1) (Nat.le_of_ble_eq_true rfl)
  rw [lg_entry_eq]
  generalize (lg_sl ([.int x]) ++ List.replicate (1 - (lg_sl ([.int x])).length) Slot.unset).toArray = ls at hl ⊢
  have hl : lv_has ls 1 [(0, .int x)] := hl
  refine lv_iload_n hx hb dX3_crownsPart_0 rfl (lv_at hl 0 rfl) ?_
  refine lv_bipush (v := 10) hx hb dX3_crownsPart_1 (by decide) ?_
  refine lv_idiv hx hb dX3_crownsPart_3 (by decide) ?_
  exact se_i hx hb hr hlocks hw (by exact rfl) (by rfl) dX3_crownsPart_4
theorem mX3_purity_0 : (Cond.constantLong RX3 327 (100)) ∈ wsX3_purity := by decide +kernel
set_option maxHeartbeats 4000000 in
set_option maxRecDepth 100000 in
theorem zX3_purity (l : Launch) (D : va_G) (a : Nat → Nat) (cs : Nat → ClassId) (σ : sS) (x : Int32) (y : Int32) : sMi l yX3_purity wsX3_purity ({ frames := 1, cells := 0, slots := 0, locals := 25 }) D a cs [.int x, .int y] σ (f_X3_purity x y) σ := by
  intro sz
  refine Met.ofW (cc := cX3_purity) (maxL := 2) (ret := (some .int)) (by decide) rfl ?_
  intro p e s m args below meth c s₁ B hml hv
  obtain ⟨rfl, hsz, hv2⟩ := hv
  have hv3 : sB D a cs σ sz s := ⟨hsz, hv2⟩
  subst hsz
  have hw := sH_start hv3
  obtain ⟨-, -, hK, -, hN⟩ := hv3
  have hx := B.exec
  have hb := B.bytes
  have hr := B.returns
  have hts := atoms_spec (ws := wsX3_purity) B.pre
  have hown : s.vm.findClass RX3 = some m.cls := findClass_of_methodNamed B.named
  have hlocks := B.notSynchronized
  have hA : ∀ q : Nat, s.heap.size ≤ q → sA a s.heap.size q := sA_new
  have hl := lv_entry ([.int x, .int y]) (n := 2) (Nat.le_of_ble_eq_true rfl)
  rw [lg_entry_eq]
  generalize (lg_sl ([.int x, .int y]) ++ List.replicate (2 - (lg_sl ([.int x, .int y])).length) Slot.unset).toArray = ls at hl ⊢
  have hl : lv_has ls 2 [(0, .int x), (1, .int y)] := hl
  refine lv_iload_n hx hb dX3_purity_0 rfl (lv_at hl 0 rfl) ?_
  refine lv_i2l hx hb dX3_purity_1 rfl ?_
  refine lv_ldc2 (v := 100) hx hb hown (hts _ mX3_purity_0) dX3_purity_2 ?_
  refine lv_iload_n hx hb dX3_purity_5 rfl (lv_at hl 0 rfl) ?_
  refine lv_i2l hx hb dX3_purity_6 rfl ?_
  refine lv_iload_n hx hb dX3_purity_7 rfl (lv_at hl 1 rfl) ?_
  refine lv_i2l hx hb dX3_purity_8 rfl ?_
  refine lv_ladd hx hb dX3_purity_9 ?_
  refine sc_i (sr_S (As := [.long x.toInt64, .long 100, .long (x.toInt64 + y.toInt64)]) (rest := []) ⟨hx, hb, hml, hown, hts⟩ (zX3_portion l D a cs _ x.toInt64 100 (x.toInt64 + y.toInt64) _) (va_cwS 3 hts gX3_purity_X3_portion rfl rfl rfl (by decide +kernel) ⟨Nat.le_of_ble_eq_true rfl, Nat.le_of_ble_eq_true rfl⟩) hK hN hw rfl hl.1 (Nat.le_of_ble_eq_true rfl) dX3_purity_10 ⟨Nat.le_of_ble_eq_true rfl, Nat.le_of_ble_eq_true rfl⟩) hw hA (fun H locs hw => ?_)
  exact se_i hx hb hr hlocks hw (by exact rfl) (by rfl) dX3_purity_13
theorem mX1_level_0 : (Cond.fieldLink RX1 15 "SaltRow$Pond" "brine" "I") ∈ wsX1_level := by decide +kernel
theorem iX1_level_X1 : ∀ w ∈ wsX10, w ∈ wsX1_level := by decide +kernel
theorem mX1_level_2 : (Cond.fieldLink RX1 9 "SaltRow$Pond" "area" "I") ∈ wsX1_level := by decide +kernel
theorem mX1_level_3 : (Cond.initialized RX3) ∈ wsX1_level := by decide +kernel
theorem mX1_level_4 : (Cond.static yX3_portion) ∈ wsX1_level := by decide +kernel
set_option maxHeartbeats 4000000 in
set_option maxRecDepth 100000 in
theorem zX1_level (l : Launch) (D : va_G) (a : Nat → Nat) (cs : Nat → ClassId) (σ : sS) (i : Nat) (hi : 5 ≤ i ∧ i < 21) (f : Nat → Int32)  : sMi l yX1_level wsX1_level ({ frames := 1, cells := 0, slots := 0, locals := 25 }) D a cs [.ref (a i)] (va_up σ i f) (f_X1_level f) (va_up σ i f) := by
  intro sz
  refine Met.ofW (cc := cX1_level) (maxL := 1) (ret := (some .int)) (by decide) rfl ?_
  intro p e s m args below meth c s₁ B hml hv
  obtain ⟨rfl, hsz, hv2⟩ := hv
  have hv3 : sB D a cs (va_up σ i f) sz s := ⟨hsz, hv2⟩
  subst hsz
  have hw := sH_start hv3
  obtain ⟨-, -, hK, -, hN⟩ := hv3
  have hx := B.exec
  have hb := B.bytes
  have hr := B.returns
  have hts := atoms_spec (ws := wsX1_level) B.pre
  have hown : s.vm.findClass RX1 = some m.cls := findClass_of_methodNamed B.named
  have hlocks := B.notSynchronized
  have hA : ∀ q : Nat, s.heap.size ≤ q → sA a s.heap.size q := sA_new
  have hl := lv_entry ([.ref (a i)]) (n := 1) (Nat.le_of_ble_eq_true rfl)
  rw [lg_entry_eq]
  generalize (lg_sl ([.ref (a i)]) ++ List.replicate (1 - (lg_sl ([.ref (a i)])).length) Slot.unset).toArray = ls at hl ⊢
  have hl : lv_has ls 1 [(0, .ref (a i))] := hl
  refine lv_aload_n hx hb dX1_level_0 rfl (lv_at hl 0 rfl) ?_
  refine sg_pf hx hb hts iX1_level_X1 hown hK hw hi 1 (f 1) rfl (by decide) (hts _ mX1_level_0) dX1_level_1 ?_
  refine lv_i2l hx hb dX1_level_4 rfl ?_
  refine lv_lconst (v := 1) hx hb dX1_level_5 (by decide) ?_
  refine lv_aload_n hx hb dX1_level_6 rfl (lv_at hl 0 rfl) ?_
  refine sg_pf hx hb hts iX1_level_X1 hown hK hw hi 0 (f 0) rfl (by decide) (hts _ mX1_level_2) dX1_level_7 ?_
  refine lv_i2l hx hb dX1_level_10 rfl ?_
  refine sc_i (sr_N (As := [.long ((f 1).toInt64), .long 1, .long ((f 0).toInt64)]) (rest := []) ⟨hx, hb, hml, hown, hts⟩ (zX3_portion l D a cs _ ((f 1).toInt64) 1 ((f 0).toInt64) _) (va_cnB 3 hts gX1_level_X3_portion_n18 rfl rfl rfl (sN_X1_X3_portion hN) (hts _ mX1_level_3) (by decide +kernel) ⟨Nat.le_of_ble_eq_true rfl, Nat.le_of_ble_eq_true rfl⟩) (hts _ mX1_level_4) hK hN hw rfl hl.1 (Nat.le_of_ble_eq_true rfl) dX1_level_11 ⟨Nat.le_of_ble_eq_true rfl, Nat.le_of_ble_eq_true rfl⟩) hw hA (fun H locs hw => ?_)
  exact se_i hx hb hr hlocks hw (by exact rfl) (by rfl) dX1_level_14
theorem mX1_strength_0 : (Cond.fieldLink RX1 22 "SaltRow$Pond" "salt" "I") ∈ wsX1_strength := by decide +kernel
theorem iX1_strength_X1 : ∀ w ∈ wsX10, w ∈ wsX1_strength := by decide +kernel
theorem mX1_strength_2 : (Cond.fieldLink RX1 25 "SaltRow$Pond" "bitter" "I") ∈ wsX1_strength := by decide +kernel
theorem mX1_strength_3 : (Cond.constantLong RX1 28 (5)) ∈ wsX1_strength := by decide +kernel
theorem mX1_strength_4 : (Cond.fieldLink RX1 15 "SaltRow$Pond" "brine" "I") ∈ wsX1_strength := by decide +kernel
theorem mX1_strength_5 : (Cond.initialized RX3) ∈ wsX1_strength := by decide +kernel
theorem mX1_strength_6 : (Cond.static yX3_portion) ∈ wsX1_strength := by decide +kernel
theorem mX1_strength_7 : (Cond.methodLink RX1 30 Lib.Math.min.name) ∈ wsX1_strength := by decide +kernel
theorem mX1_strength_8 : (Cond.static Lib.Math.min.name) ∈ wsX1_strength := by decide +kernel
theorem mX1_strength_9 : (Cond.initialized "java/lang/Math") ∈ wsX1_strength := by decide +kernel
theorem mX1_strength_10 : (Cond.code Lib.Math.min.name Lib.Math.min.code 2 (some .int)) ∈ wsX1_strength := by decide +kernel
set_option maxHeartbeats 4000000 in
set_option maxRecDepth 100000 in
theorem zX1_strength (l : Launch) (D : va_G) (a : Nat → Nat) (cs : Nat → ClassId) (σ : sS) (i : Nat) (hi : 5 ≤ i ∧ i < 21) (f : Nat → Int32)  : sMi l yX1_strength wsX1_strength ({ frames := 1, cells := 0, slots := 0, locals := 25 }) D a cs [.ref (a i)] (va_up σ i f) (f_X1_strength f) (va_up σ i f) := by
  intro sz
  refine Met.ofW (cc := cX1_strength) (maxL := 1) (ret := (some .int)) (by decide) rfl ?_
  intro p e s m args below meth c s₁ B hml hv
  obtain ⟨rfl, hsz, hv2⟩ := hv
  have hv3 : sB D a cs (va_up σ i f) sz s := ⟨hsz, hv2⟩
  subst hsz
  have hw := sH_start hv3
  obtain ⟨-, -, hK, -, hN⟩ := hv3
  have hx := B.exec
  have hb := B.bytes
  have hr := B.returns
  have hts := atoms_spec (ws := wsX1_strength) B.pre
  have hown : s.vm.findClass RX1 = some m.cls := findClass_of_methodNamed B.named
  have hlocks := B.notSynchronized
  have hA : ∀ q : Nat, s.heap.size ≤ q → sA a s.heap.size q := sA_new
  have hl := lv_entry ([.ref (a i)]) (n := 1) (Nat.le_of_ble_eq_true rfl)
  rw [lg_entry_eq]
  generalize (lg_sl ([.ref (a i)]) ++ List.replicate (1 - (lg_sl ([.ref (a i)])).length) Slot.unset).toArray = ls at hl ⊢
  have hl : lv_has ls 1 [(0, .ref (a i))] := hl
  refine lv_bipush (v := 90) hx hb dX1_strength_0 (by decide) ?_
  refine lv_aload_n hx hb dX1_strength_2 rfl (lv_at hl 0 rfl) ?_
  refine sg_pf hx hb hts iX1_strength_X1 hown hK hw hi 2 (f 2) rfl (by decide) (hts _ mX1_strength_0) dX1_strength_3 ?_
  refine lv_i2l hx hb dX1_strength_6 rfl ?_
  refine lv_aload_n hx hb dX1_strength_7 rfl (lv_at hl 0 rfl) ?_
  refine sg_pf hx hb hts iX1_strength_X1 hown hK hw hi 4 (f 4) rfl (by decide) (hts _ mX1_strength_2) dX1_strength_8 ?_
  refine lv_i2l hx hb dX1_strength_11 rfl ?_
  refine lv_ladd hx hb dX1_strength_12 ?_
  refine lv_lconst (v := 1) hx hb dX1_strength_13 (by decide) ?_
  refine lv_ldc2 (v := 5) hx hb hown (hts _ mX1_strength_3) dX1_strength_14 ?_
  refine lv_aload_n hx hb dX1_strength_17 rfl (lv_at hl 0 rfl) ?_
  refine sg_pf hx hb hts iX1_strength_X1 hown hK hw hi 1 (f 1) rfl (by decide) (hts _ mX1_strength_4) dX1_strength_18 ?_
  refine lv_i2l hx hb dX1_strength_21 rfl ?_
  refine lv_lmul hx hb dX1_strength_22 ?_
  refine sc_i (sr_N (As := [.long (((f 2).toInt64) + ((f 4).toInt64)), .long 1, .long (5 * ((f 1).toInt64))]) (rest := [.int 90]) ⟨hx, hb, hml, hown, hts⟩ (zX3_portion l D a cs _ (((f 2).toInt64) + ((f 4).toInt64)) 1 (5 * ((f 1).toInt64)) _) (va_cnB 3 hts gX1_strength_X3_portion_n18 rfl rfl rfl (sN_X1_X3_portion hN) (hts _ mX1_strength_5) (by decide +kernel) ⟨Nat.le_of_ble_eq_true rfl, Nat.le_of_ble_eq_true rfl⟩) (hts _ mX1_strength_6) hK hN hw rfl hl.1 (Nat.le_of_ble_eq_true rfl) dX1_strength_23 ⟨Nat.le_of_ble_eq_true rfl, Nat.le_of_ble_eq_true rfl⟩) hw hA (fun H locs hw => ?_)
  refine va_mmin hx hb (hml.trans hl.1.symm) hown (hts _ mX1_strength_7) (hts _ mX1_strength_8) (hts _ mX1_strength_9) (hts _ mX1_strength_10) (Nat.le_of_ble_eq_true rfl) (Nat.le_of_ble_eq_true rfl) (Nat.le_of_ble_eq_true rfl) (Nat.le_of_ble_eq_true rfl) dX1_strength_26 ?_
  refine lw_topi (fun x1 ex1 => ?_)
  exact se_i hx hb hr hlocks hw (by subst ex1; exact rfl) (by subst ex1; rfl) dX1_strength_29
theorem mX1_takeIn_0 : (Cond.fieldLink RX1 15 "SaltRow$Pond" "brine" "I") ∈ wsX1_takeIn := by decide +kernel
theorem iX1_takeIn_X1 : ∀ w ∈ wsX10, w ∈ wsX1_takeIn := by decide +kernel
theorem mX1_takeIn_2 : (Cond.fieldLink RX1 22 "SaltRow$Pond" "salt" "I") ∈ wsX1_takeIn := by decide +kernel
theorem mX1_takeIn_3 : (Cond.fieldLink RX1 36 "SaltRow$Pond" "gypsum" "I") ∈ wsX1_takeIn := by decide +kernel
theorem mX1_takeIn_4 : (Cond.fieldLink RX1 25 "SaltRow$Pond" "bitter" "I") ∈ wsX1_takeIn := by decide +kernel
set_option maxHeartbeats 4000000 in
set_option maxRecDepth 100000 in
theorem zX1_takeIn (l : Launch) (D : va_G) (a : Nat → Nat) (cs : Nat → ClassId) (σ : sS) (i : Nat) (hi : 5 ≤ i ∧ i < 21) (f : Nat → Int32) (b : Int32) (s0 : Int32) (g : Int32) (t0 : Int32) : sMv l yX1_takeIn wsX1_takeIn ({ frames := 0, cells := 0, slots := 0, locals := 0 }) D a cs [.ref (a i), .int b, .int s0, .int g, .int t0] (va_up σ i f) (va_up σ i (f_X1_takeIn f b s0 g t0)) := by
  intro sz
  refine Met.ofW (cc := cX1_takeIn) (maxL := 5) (ret := none) (by decide) rfl ?_
  intro p e s m args below meth c s₁ B hml hv
  obtain ⟨rfl, hsz, hv2⟩ := hv
  have hv3 : sB D a cs (va_up σ i f) sz s := ⟨hsz, hv2⟩
  subst hsz
  have hw := sH_start hv3
  obtain ⟨-, -, hK, -, hN⟩ := hv3
  have hx := B.exec
  have hb := B.bytes
  have hr := B.returns
  have hts := atoms_spec (ws := wsX1_takeIn) B.pre
  have hown : s.vm.findClass RX1 = some m.cls := findClass_of_methodNamed B.named
  have hlocks := B.notSynchronized
  have hA : ∀ q : Nat, s.heap.size ≤ q → sA a s.heap.size q := sA_new
  have hl := lv_entry ([.ref (a i), .int b, .int s0, .int g, .int t0]) (n := 5) (Nat.le_of_ble_eq_true rfl)
  rw [lg_entry_eq]
  generalize (lg_sl ([.ref (a i), .int b, .int s0, .int g, .int t0]) ++ List.replicate (5 - (lg_sl ([.ref (a i), .int b, .int s0, .int g, .int t0])).length) Slot.unset).toArray = ls at hl ⊢
  have hl : lv_has ls 5 [(0, .ref (a i)), (1, .int b), (2, .int s0), (3, .int g), (4, .int t0)] := hl
  refine lv_aload_n hx hb dX1_takeIn_0 rfl (lv_at hl 0 rfl) ?_
  refine lv_dup hx hb dX1_takeIn_1 rfl ?_
  refine sg_pf hx hb hts iX1_takeIn_X1 hown hK hw hi 1 (f 1) rfl (by decide) (hts _ mX1_takeIn_0) dX1_takeIn_2 ?_
  refine lv_iload_n hx hb dX1_takeIn_5 rfl (lv_at hl 1 rfl) ?_
  refine lv_iadd hx hb dX1_takeIn_6 ?_
  refine sp_pf hx hb hts iX1_takeIn_X1 hown hK hw hi 1 (by decide) (hts _ mX1_takeIn_0) dX1_takeIn_7 (fun H locs hw => ?_)
  refine lv_aload_n hx hb dX1_takeIn_10 rfl (lv_at hl 0 rfl) ?_
  refine lv_dup hx hb dX1_takeIn_11 rfl ?_
  refine sg_pf hx hb hts iX1_takeIn_X1 hown hK hw hi 2 (f 2) rfl (by decide) (hts _ mX1_takeIn_2) dX1_takeIn_12 ?_
  refine lv_iload_n hx hb dX1_takeIn_15 rfl (lv_at hl 2 rfl) ?_
  refine lv_iadd hx hb dX1_takeIn_16 ?_
  refine sp_pf hx hb hts iX1_takeIn_X1 hown hK hw hi 2 (by decide) (hts _ mX1_takeIn_2) dX1_takeIn_17 (fun H locs hw => ?_)
  refine lv_aload_n hx hb dX1_takeIn_20 rfl (lv_at hl 0 rfl) ?_
  refine lv_dup hx hb dX1_takeIn_21 rfl ?_
  refine sg_pf hx hb hts iX1_takeIn_X1 hown hK hw hi 3 (f 3) rfl (by decide) (hts _ mX1_takeIn_3) dX1_takeIn_22 ?_
  refine lv_iload_n hx hb dX1_takeIn_25 rfl (lv_at hl 3 rfl) ?_
  refine lv_iadd hx hb dX1_takeIn_26 ?_
  refine sp_pf hx hb hts iX1_takeIn_X1 hown hK hw hi 3 (by decide) (hts _ mX1_takeIn_3) dX1_takeIn_27 (fun H locs hw => ?_)
  refine lv_aload_n hx hb dX1_takeIn_30 rfl (lv_at hl 0 rfl) ?_
  refine lv_dup hx hb dX1_takeIn_31 rfl ?_
  refine sg_pf hx hb hts iX1_takeIn_X1 hown hK hw hi 4 (f 4) rfl (by decide) (hts _ mX1_takeIn_4) dX1_takeIn_32 ?_
  refine lv_iload hx hb dX1_takeIn_35 (lv_at hl 4 rfl) ?_
  refine lv_iadd hx hb dX1_takeIn_37 ?_
  refine sp_pf hx hb hts iX1_takeIn_X1 hown hK hw hi 4 (by decide) (hts _ mX1_takeIn_4) dX1_takeIn_38 (fun H locs hw => ?_)
  exact se_v hx hb hr hlocks hw (by exact rfl) dX1_takeIn_41
theorem mX1_rainFalls_0 : (Cond.fieldLink RX1 65 "SaltRow$Pond" "isCovered" "Z") ∈ wsX1_rainFalls := by decide +kernel
theorem iX1_rainFalls_X1 : ∀ w ∈ wsX10, w ∈ wsX1_rainFalls := by decide +kernel
theorem mX1_rainFalls_2 : (Cond.fieldLink RX1 39 "SaltRow$Pond" "fresh" "I") ∈ wsX1_rainFalls := by decide +kernel
theorem mX1_rainFalls_3 : (Cond.fieldLink RX1 9 "SaltRow$Pond" "area" "I") ∈ wsX1_rainFalls := by decide +kernel
set_option maxHeartbeats 4000000 in
set_option maxRecDepth 100000 in
theorem zX1_rainFalls (l : Launch) (D : va_G) (a : Nat → Nat) (cs : Nat → ClassId) (σ : sS) (i : Nat) (hi : 5 ≤ i ∧ i < 21) (f : Nat → Int32) (x : Int32) : sMv l yX1_rainFalls wsX1_rainFalls ({ frames := 0, cells := 0, slots := 0, locals := 0 }) D a cs [.ref (a i), .int x] (va_up σ i f) (va_up σ i (f_X1_rainFalls f x)) := by
  intro sz
  refine Met.ofW (cc := cX1_rainFalls) (maxL := 2) (ret := none) (by decide) rfl ?_
  intro p e s m args below meth c s₁ B hml hv
  obtain ⟨rfl, hsz, hv2⟩ := hv
  have hv3 : sB D a cs (va_up σ i f) sz s := ⟨hsz, hv2⟩
  subst hsz
  have hw := sH_start hv3
  obtain ⟨-, -, hK, -, hN⟩ := hv3
  have hx := B.exec
  have hb := B.bytes
  have hr := B.returns
  have hts := atoms_spec (ws := wsX1_rainFalls) B.pre
  have hown : s.vm.findClass RX1 = some m.cls := findClass_of_methodNamed B.named
  have hlocks := B.notSynchronized
  have hA : ∀ q : Nat, s.heap.size ≤ q → sA a s.heap.size q := sA_new
  have hl := lv_entry ([.ref (a i), .int x]) (n := 2) (Nat.le_of_ble_eq_true rfl)
  rw [lg_entry_eq]
  generalize (lg_sl ([.ref (a i), .int x]) ++ List.replicate (2 - (lg_sl ([.ref (a i), .int x])).length) Slot.unset).toArray = ls at hl ⊢
  have hl : lv_has ls 2 [(0, .ref (a i)), (1, .int x)] := hl
  refine lv_aload_n hx hb dX1_rainFalls_0 rfl (lv_at hl 0 rfl) ?_
  refine sg_pf hx hb hts iX1_rainFalls_X1 hown hK hw hi 10 (f 10) rfl (by decide) (hts _ mX1_rainFalls_0) dX1_rainFalls_1 ?_
  refine lv_if_ne (tgt := 25) hx hb dX1_rainFalls_4 (by decide) (fun c1 => ?_) (fun c1 => ?_)
  · exact se_v hx hb hr hlocks hw (by unfold f_X1_rainFalls; rw [if_neg c1] <;> rfl) dX1_rainFalls_25
  · refine lv_aload_n hx hb dX1_rainFalls_7 rfl (lv_at hl 0 rfl) ?_
    refine lv_dup hx hb dX1_rainFalls_8 rfl ?_
    refine sg_pf hx hb hts iX1_rainFalls_X1 hown hK hw hi 5 (f 5) rfl (by decide) (hts _ mX1_rainFalls_2) dX1_rainFalls_9 ?_
    refine lv_iload_n hx hb dX1_rainFalls_12 rfl (lv_at hl 1 rfl) ?_
    refine lv_aload_n hx hb dX1_rainFalls_13 rfl (lv_at hl 0 rfl) ?_
    refine sg_pf hx hb hts iX1_rainFalls_X1 hown hK hw hi 0 (f 0) rfl (by decide) (hts _ mX1_rainFalls_3) dX1_rainFalls_14 ?_
    refine lv_imul hx hb dX1_rainFalls_17 ?_
    refine lv_bipush (v := 10) hx hb dX1_rainFalls_18 (by decide) ?_
    refine lv_idiv hx hb dX1_rainFalls_20 (by decide) ?_
    refine lv_iadd hx hb dX1_rainFalls_21 ?_
    refine lw_topi (fun x2 ex2 => ?_)
    refine sp_pf hx hb hts iX1_rainFalls_X1 hown hK hw hi 5 (by decide) (hts _ mX1_rainFalls_2) dX1_rainFalls_22 (fun H locs hw => ?_)
    exact se_v hx hb hr hlocks hw (by subst ex2; unfold f_X1_rainFalls; rw [if_pos c1] <;> rfl) dX1_rainFalls_25
theorem mX1_dryOut_0 : (Cond.fieldLink RX1 9 "SaltRow$Pond" "area" "I") ∈ wsX1_dryOut := by decide +kernel
theorem iX1_dryOut_X1 : ∀ w ∈ wsX10, w ∈ wsX1_dryOut := by decide +kernel
theorem mX1_dryOut_2 : (Cond.fieldLink RX1 39 "SaltRow$Pond" "fresh" "I") ∈ wsX1_dryOut := by decide +kernel
theorem mX1_dryOut_3 : (Cond.methodLink RX1 30 Lib.Math.min.name) ∈ wsX1_dryOut := by decide +kernel
theorem mX1_dryOut_4 : (Cond.static Lib.Math.min.name) ∈ wsX1_dryOut := by decide +kernel
theorem mX1_dryOut_5 : (Cond.initialized "java/lang/Math") ∈ wsX1_dryOut := by decide +kernel
theorem mX1_dryOut_6 : (Cond.code Lib.Math.min.name Lib.Math.min.code 2 (some .int)) ∈ wsX1_dryOut := by decide +kernel
theorem mX1_dryOut_7 : (Cond.fieldLink RX1 15 "SaltRow$Pond" "brine" "I") ∈ wsX1_dryOut := by decide +kernel
theorem mX1_dryOut_8 : (Cond.initialized RX3) ∈ wsX1_dryOut := by decide +kernel
theorem mX1_dryOut_9 : (Cond.static yX3_roundedUp) ∈ wsX1_dryOut := by decide +kernel
set_option maxHeartbeats 4000000 in
set_option maxRecDepth 100000 in
theorem zX1_dryOut (l : Launch) (D : va_G) (a : Nat → Nat) (cs : Nat → ClassId) (σ : sS) (i : Nat) (hi : 5 ≤ i ∧ i < 21) (f : Nat → Int32) (x : Int32) : sMv l yX1_dryOut wsX1_dryOut ({ frames := 2, cells := 0, slots := 0, locals := 45 }) D a cs [.ref (a i), .int x] (va_up σ i f) (va_up σ i (f_X1_dryOut f x)) := by
  intro sz
  refine Met.ofW (cc := cX1_dryOut) (maxL := 4) (ret := none) (by decide) rfl ?_
  intro p e s m args below meth c s₁ B hml hv
  obtain ⟨rfl, hsz, hv2⟩ := hv
  have hv3 : sB D a cs (va_up σ i f) sz s := ⟨hsz, hv2⟩
  subst hsz
  have hw := sH_start hv3
  obtain ⟨-, -, hK, -, hN⟩ := hv3
  have hx := B.exec
  have hb := B.bytes
  have hr := B.returns
  have hts := atoms_spec (ws := wsX1_dryOut) B.pre
  have hown : s.vm.findClass RX1 = some m.cls := findClass_of_methodNamed B.named
  have hlocks := B.notSynchronized
  have hA : ∀ q : Nat, s.heap.size ≤ q → sA a s.heap.size q := sA_new
  have hl := lv_entry ([.ref (a i), .int x]) (n := 4) (Nat.le_of_ble_eq_true rfl)
  rw [lg_entry_eq]
  generalize (lg_sl ([.ref (a i), .int x]) ++ List.replicate (4 - (lg_sl ([.ref (a i), .int x])).length) Slot.unset).toArray = ls at hl ⊢
  have hl : lv_has ls 4 [(0, .ref (a i)), (1, .int x)] := hl
  refine lv_aload_n hx hb dX1_dryOut_0 rfl (lv_at hl 0 rfl) ?_
  refine sg_pf hx hb hts iX1_dryOut_X1 hown hK hw hi 0 (f 0) rfl (by decide) (hts _ mX1_dryOut_0) dX1_dryOut_1 ?_
  refine lv_iload_n hx hb dX1_dryOut_4 rfl (lv_at hl 1 rfl) ?_
  refine lv_imul hx hb dX1_dryOut_5 ?_
  refine lv_istore_n (lv' := [(2, .int ((f 0) * x)), (0, .ref (a i)), (1, .int x)]) hx hb dX1_dryOut_6 rfl hl (by decide) rfl (fun ls hl => ?_)
  refine lv_aload_n hx hb dX1_dryOut_7 rfl (lv_at hl 1 rfl) ?_
  refine sg_pf hx hb hts iX1_dryOut_X1 hown hK hw hi 5 (f 5) rfl (by decide) (hts _ mX1_dryOut_2) dX1_dryOut_8 ?_
  refine lv_iload_n hx hb dX1_dryOut_11 rfl (lv_at hl 0 rfl) ?_
  refine lv_bipush (v := 10) hx hb dX1_dryOut_12 (by decide) ?_
  refine lv_idiv hx hb dX1_dryOut_14 (by decide) ?_
  refine va_mmin hx hb (hml.trans hl.1.symm) hown (hts _ mX1_dryOut_3) (hts _ mX1_dryOut_4) (hts _ mX1_dryOut_5) (hts _ mX1_dryOut_6) (Nat.le_of_ble_eq_true rfl) (Nat.le_of_ble_eq_true rfl) (Nat.le_of_ble_eq_true rfl) (Nat.le_of_ble_eq_true rfl) dX1_dryOut_15 ?_
  refine lw_topi (fun x1 ex1 => ?_)
  refine lv_istore_n (lv' := [(3, .int x1), (2, .int ((f 0) * x)), (0, .ref (a i)), (1, .int x)]) hx hb dX1_dryOut_18 rfl hl (by decide) rfl (fun ls hl => ?_)
  refine lv_aload_n hx hb dX1_dryOut_19 rfl (lv_at hl 2 rfl) ?_
  refine lv_dup hx hb dX1_dryOut_20 rfl ?_
  refine sg_pf hx hb hts iX1_dryOut_X1 hown hK hw hi 5 (f 5) rfl (by decide) (hts _ mX1_dryOut_2) dX1_dryOut_21 ?_
  refine lv_iload_n hx hb dX1_dryOut_24 rfl (lv_at hl 0 rfl) ?_
  refine lv_isub hx hb dX1_dryOut_25 ?_
  refine sp_pf hx hb hts iX1_dryOut_X1 hown hK hw hi 5 (by decide) (hts _ mX1_dryOut_2) dX1_dryOut_26 (fun H locs hw => ?_)
  refine lv_iload_n hx hb dX1_dryOut_29 rfl (lv_at hl 1 rfl) ?_
  refine lv_bipush (v := 10) hx hb dX1_dryOut_30 (by decide) ?_
  refine lv_iload_n hx hb dX1_dryOut_32 rfl (lv_at hl 0 rfl) ?_
  refine lv_imul hx hb dX1_dryOut_33 ?_
  refine lv_isub hx hb dX1_dryOut_34 ?_
  refine lw_topi (fun x2 ex2 => ?_)
  refine lv_istore_n (lv' := [(2, .int x2), (3, .int x1), (0, .ref (a i)), (1, .int x)]) hx hb dX1_dryOut_35 rfl hl (by decide) rfl (fun ls hl => ?_)
  refine lv_aload_n hx hb dX1_dryOut_36 rfl (lv_at hl 2 rfl) ?_
  refine lv_dup hx hb dX1_dryOut_37 rfl ?_
  refine sg_pf hx hb hts iX1_dryOut_X1 hown hK hw hi 1 (f 1) rfl (by decide) (hts _ mX1_dryOut_7) dX1_dryOut_38 ?_
  refine lv_aload_n hx hb dX1_dryOut_41 rfl (lv_at hl 2 rfl) ?_
  refine sg_pf hx hb hts iX1_dryOut_X1 hown hK hw hi 1 (f 1) rfl (by decide) (hts _ mX1_dryOut_7) dX1_dryOut_42 ?_
  refine lv_iconst (v := 2) hx hb dX1_dryOut_45 (by decide) ?_
  refine lv_idiv hx hb dX1_dryOut_46 (by decide) ?_
  refine lv_iload_n hx hb dX1_dryOut_47 rfl (lv_at hl 0 rfl) ?_
  refine lv_bipush (v := 100) hx hb dX1_dryOut_48 (by decide) ?_
  refine lv_aload_n hx hb dX1_dryOut_50 rfl (lv_at hl 2 rfl) ?_
  refine sc_i (sr_V (i := i) (As := []) (rest := [.int 100, .int x2, .int ((f 1) / 2), .int (f 1), .ref (a i)]) ⟨hx, hb, hml, hown, hts⟩ (zX1_strength l D a cs _ i hi _ _) (cwV 0 hts gX1_dryOut_X1_strength rfl rfl rfl (by decide +kernel) ⟨Nat.le_of_ble_eq_true rfl, Nat.le_of_ble_eq_true rfl⟩) hK hN hw (by omega) (sE_p hi) kcX1 rfl hl.1 (Nat.le_of_ble_eq_true rfl) dX1_dryOut_51 ⟨Nat.le_of_ble_eq_true rfl, Nat.le_of_ble_eq_true rfl⟩) hw hA (fun H locs hw => ?_)
  refine lv_isub hx hb dX1_dryOut_54 ?_
  refine lv_imul hx hb dX1_dryOut_55 ?_
  refine lv_sipush (v := 1000) hx hb dX1_dryOut_56 (by decide) ?_
  refine sc_i (sr_N (As := [.int (x2 * (100 - (f_X1_strength (upd f 5 ((f 5) - x1))))), .int 1000]) (rest := [.int ((f 1) / 2), .int (f 1), .ref (a i)]) ⟨hx, hb, hml, hown, hts⟩ (zX3_roundedUp l D a cs _ (x2 * (100 - (f_X1_strength (upd f 5 ((f 5) - x1))))) 1000 _) (va_cnB 2 hts gX1_dryOut_X3_roundedUp_n72 rfl rfl rfl (sN_X1_X3_roundedUp hN) (hts _ mX1_dryOut_8) (by decide +kernel) ⟨Nat.le_of_ble_eq_true rfl, Nat.le_of_ble_eq_true rfl⟩) (hts _ mX1_dryOut_9) hK hN hw rfl hl.1 (Nat.le_of_ble_eq_true rfl) dX1_dryOut_59 ⟨Nat.le_of_ble_eq_true rfl, Nat.le_of_ble_eq_true rfl⟩) hw hA (fun H locs hw => ?_)
  refine va_mmin hx hb (hml.trans hl.1.symm) hown (hts _ mX1_dryOut_3) (hts _ mX1_dryOut_4) (hts _ mX1_dryOut_5) (hts _ mX1_dryOut_6) (Nat.le_of_ble_eq_true rfl) (Nat.le_of_ble_eq_true rfl) (Nat.le_of_ble_eq_true rfl) (Nat.le_of_ble_eq_true rfl) dX1_dryOut_62 ?_
  refine lw_topi (fun x3 ex3 => ?_)
  refine lv_isub hx hb dX1_dryOut_65 ?_
  refine sp_pf hx hb hts iX1_dryOut_X1 hown hK hw hi 1 (by decide) (hts _ mX1_dryOut_7) dX1_dryOut_66 (fun H locs hw => ?_)
  exact se_v hx hb hr hlocks hw (by subst ex3 ex2 ex1; exact rfl) dX1_dryOut_69
theorem mX1_mixFresh_0 : (Cond.fieldLink RX1 39 "SaltRow$Pond" "fresh" "I") ∈ wsX1_mixFresh := by decide +kernel
theorem iX1_mixFresh_X1 : ∀ w ∈ wsX10, w ∈ wsX1_mixFresh := by decide +kernel
theorem mX1_mixFresh_2 : (Cond.initialized RX3) ∈ wsX1_mixFresh := by decide +kernel
theorem mX1_mixFresh_3 : (Cond.static yX3_roundedUp) ∈ wsX1_mixFresh := by decide +kernel
theorem mX1_mixFresh_4 : (Cond.fieldLink RX1 42 "SaltRow$Pond" "crustSalt" "I") ∈ wsX1_mixFresh := by decide +kernel
theorem mX1_mixFresh_5 : (Cond.methodLink RX1 30 Lib.Math.min.name) ∈ wsX1_mixFresh := by decide +kernel
theorem mX1_mixFresh_6 : (Cond.static Lib.Math.min.name) ∈ wsX1_mixFresh := by decide +kernel
theorem mX1_mixFresh_7 : (Cond.initialized "java/lang/Math") ∈ wsX1_mixFresh := by decide +kernel
theorem mX1_mixFresh_8 : (Cond.code Lib.Math.min.name Lib.Math.min.code 2 (some .int)) ∈ wsX1_mixFresh := by decide +kernel
theorem mX1_mixFresh_9 : (Cond.fieldLink RX1 15 "SaltRow$Pond" "brine" "I") ∈ wsX1_mixFresh := by decide +kernel
theorem mX1_mixFresh_10 : (Cond.fieldLink RX1 22 "SaltRow$Pond" "salt" "I") ∈ wsX1_mixFresh := by decide +kernel
set_option maxHeartbeats 4000000 in
set_option maxRecDepth 100000 in
theorem zX1_mixFresh (l : Launch) (D : va_G) (a : Nat → Nat) (cs : Nat → ClassId) (σ : sS) (i : Nat) (hi : 5 ≤ i ∧ i < 21) (f : Nat → Int32)  : sMv l yX1_mixFresh wsX1_mixFresh ({ frames := 1, cells := 0, slots := 0, locals := 25 }) D a cs [.ref (a i)] (va_up σ i f) (va_up σ i (f_X1_mixFresh f)) := by
  intro sz
  refine Met.ofW (cc := cX1_mixFresh) (maxL := 3) (ret := none) (by decide) rfl ?_
  intro p e s m args below meth c s₁ B hml hv
  obtain ⟨rfl, hsz, hv2⟩ := hv
  have hv3 : sB D a cs (va_up σ i f) sz s := ⟨hsz, hv2⟩
  subst hsz
  have hw := sH_start hv3
  obtain ⟨-, -, hK, -, hN⟩ := hv3
  have hx := B.exec
  have hb := B.bytes
  have hr := B.returns
  have hts := atoms_spec (ws := wsX1_mixFresh) B.pre
  have hown : s.vm.findClass RX1 = some m.cls := findClass_of_methodNamed B.named
  have hlocks := B.notSynchronized
  have hA : ∀ q : Nat, s.heap.size ≤ q → sA a s.heap.size q := sA_new
  have hl := lv_entry ([.ref (a i)]) (n := 3) (Nat.le_of_ble_eq_true rfl)
  rw [lg_entry_eq]
  generalize (lg_sl ([.ref (a i)]) ++ List.replicate (3 - (lg_sl ([.ref (a i)])).length) Slot.unset).toArray = ls at hl ⊢
  have hl : lv_has ls 3 [(0, .ref (a i))] := hl
  refine lv_aload_n hx hb dX1_mixFresh_0 rfl (lv_at hl 0 rfl) ?_
  refine sg_pf hx hb hts iX1_mixFresh_X1 hown hK hw hi 5 (f 5) rfl (by decide) (hts _ mX1_mixFresh_0) dX1_mixFresh_1 ?_
  refine lv_iconst (v := 2) hx hb dX1_mixFresh_4 (by decide) ?_
  refine sc_i (sr_N (As := [.int (f 5), .int 2]) (rest := []) ⟨hx, hb, hml, hown, hts⟩ (zX3_roundedUp l D a cs _ (f 5) 2 _) (va_cnB 2 hts gX1_mixFresh_X3_roundedUp_n72 rfl rfl rfl (sN_X1_X3_roundedUp hN) (hts _ mX1_mixFresh_2) (by decide +kernel) ⟨Nat.le_of_ble_eq_true rfl, Nat.le_of_ble_eq_true rfl⟩) (hts _ mX1_mixFresh_3) hK hN hw rfl hl.1 (Nat.le_of_ble_eq_true rfl) dX1_mixFresh_5 ⟨Nat.le_of_ble_eq_true rfl, Nat.le_of_ble_eq_true rfl⟩) hw hA (fun H locs hw => ?_)
  refine lv_istore_n (lv' := [(1, .int (f_X3_roundedUp (f 5) 2)), (0, .ref (a i))]) hx hb dX1_mixFresh_8 rfl hl (by decide) rfl (fun ls hl => ?_)
  refine lv_aload_n hx hb dX1_mixFresh_9 rfl (lv_at hl 1 rfl) ?_
  refine sg_pf hx hb hts iX1_mixFresh_X1 hown hK hw hi 6 (f 6) rfl (by decide) (hts _ mX1_mixFresh_4) dX1_mixFresh_10 ?_
  refine lv_iconst (v := 4) hx hb dX1_mixFresh_13 (by decide) ?_
  refine lv_iload_n hx hb dX1_mixFresh_14 rfl (lv_at hl 0 rfl) ?_
  refine lv_imul hx hb dX1_mixFresh_15 ?_
  refine va_mmin hx hb (hml.trans hl.1.symm) hown (hts _ mX1_mixFresh_5) (hts _ mX1_mixFresh_6) (hts _ mX1_mixFresh_7) (hts _ mX1_mixFresh_8) (Nat.le_of_ble_eq_true rfl) (Nat.le_of_ble_eq_true rfl) (Nat.le_of_ble_eq_true rfl) (Nat.le_of_ble_eq_true rfl) dX1_mixFresh_16 ?_
  refine lw_topi (fun x1 ex1 => ?_)
  refine lv_istore_n (lv' := [(2, .int x1), (1, .int (f_X3_roundedUp (f 5) 2)), (0, .ref (a i))]) hx hb dX1_mixFresh_19 rfl hl (by decide) rfl (fun ls hl => ?_)
  refine lv_aload_n hx hb dX1_mixFresh_20 rfl (lv_at hl 2 rfl) ?_
  refine lv_dup hx hb dX1_mixFresh_21 rfl ?_
  refine sg_pf hx hb hts iX1_mixFresh_X1 hown hK hw hi 5 (f 5) rfl (by decide) (hts _ mX1_mixFresh_0) dX1_mixFresh_22 ?_
  refine lv_iload_n hx hb dX1_mixFresh_25 rfl (lv_at hl 1 rfl) ?_
  refine lv_isub hx hb dX1_mixFresh_26 ?_
  refine lw_topi (fun x2 ex2 => ?_)
  refine sp_pf hx hb hts iX1_mixFresh_X1 hown hK hw hi 5 (by decide) (hts _ mX1_mixFresh_0) dX1_mixFresh_27 (fun H locs hw => ?_)
  refine lv_aload_n hx hb dX1_mixFresh_30 rfl (lv_at hl 2 rfl) ?_
  refine lv_dup hx hb dX1_mixFresh_31 rfl ?_
  refine sg_pf hx hb hts iX1_mixFresh_X1 hown hK hw hi 1 (f 1) rfl (by decide) (hts _ mX1_mixFresh_9) dX1_mixFresh_32 ?_
  refine lv_iload_n hx hb dX1_mixFresh_35 rfl (lv_at hl 1 rfl) ?_
  refine lv_iadd hx hb dX1_mixFresh_36 ?_
  refine lw_topi (fun x3 ex3 => ?_)
  refine sp_pf hx hb hts iX1_mixFresh_X1 hown hK hw hi 1 (by decide) (hts _ mX1_mixFresh_9) dX1_mixFresh_37 (fun H locs hw => ?_)
  refine lv_aload_n hx hb dX1_mixFresh_40 rfl (lv_at hl 2 rfl) ?_
  refine lv_dup hx hb dX1_mixFresh_41 rfl ?_
  refine sg_pf hx hb hts iX1_mixFresh_X1 hown hK hw hi 6 (f 6) rfl (by decide) (hts _ mX1_mixFresh_4) dX1_mixFresh_42 ?_
  refine lv_iload_n hx hb dX1_mixFresh_45 rfl (lv_at hl 0 rfl) ?_
  refine lv_isub hx hb dX1_mixFresh_46 ?_
  refine sp_pf hx hb hts iX1_mixFresh_X1 hown hK hw hi 6 (by decide) (hts _ mX1_mixFresh_4) dX1_mixFresh_47 (fun H locs hw => ?_)
  refine lv_aload_n hx hb dX1_mixFresh_50 rfl (lv_at hl 2 rfl) ?_
  refine lv_dup hx hb dX1_mixFresh_51 rfl ?_
  refine sg_pf hx hb hts iX1_mixFresh_X1 hown hK hw hi 2 (f 2) rfl (by decide) (hts _ mX1_mixFresh_10) dX1_mixFresh_52 ?_
  refine lv_iload_n hx hb dX1_mixFresh_55 rfl (lv_at hl 0 rfl) ?_
  refine lv_iadd hx hb dX1_mixFresh_56 ?_
  refine sp_pf hx hb hts iX1_mixFresh_X1 hown hK hw hi 2 (by decide) (hts _ mX1_mixFresh_10) dX1_mixFresh_57 (fun H locs hw => ?_)
  exact se_v hx hb hr hlocks hw (by subst ex3 ex2 ex1; exact rfl) dX1_mixFresh_60
theorem mX1_above_0 : (Cond.fieldLink RX1 15 "SaltRow$Pond" "brine" "I") ∈ wsX1_above := by decide +kernel
theorem iX1_above_X1 : ∀ w ∈ wsX10, w ∈ wsX1_above := by decide +kernel
theorem mX1_above_2 : (Cond.methodLink RX1 78 Lib.MathLoose.max_long.x) ∈ wsX1_above := by decide +kernel
theorem mX1_above_3 : (Cond.static Lib.MathLoose.max_long.x) ∈ wsX1_above := by decide +kernel
theorem mX1_above_4 : (Cond.initialized "java/lang/Math") ∈ wsX1_above := by decide +kernel
theorem mX1_above_5 : (Cond.code Lib.MathLoose.max_long.x Lib.MathLoose.max_long.code 4 (some .long)) ∈ wsX1_above := by decide +kernel
set_option maxHeartbeats 4000000 in
set_option maxRecDepth 100000 in
theorem zX1_above (l : Launch) (D : va_G) (a : Nat → Nat) (cs : Nat → ClassId) (σ : sS) (i : Nat) (hi : 5 ≤ i ∧ i < 21) (f : Nat → Int32) (x : Int32) (y : Int32) : sMi l yX1_above wsX1_above ({ frames := 1, cells := 0, slots := 0, locals := 25 }) D a cs [.ref (a i), .int x, .int y] (va_up σ i f) (f_X1_above f x y) (va_up σ i f) := by
  intro sz
  refine Met.ofW (cc := cX1_above) (maxL := 3) (ret := (some .int)) (by decide) rfl ?_
  intro p e s m args below meth c s₁ B hml hv
  obtain ⟨rfl, hsz, hv2⟩ := hv
  have hv3 : sB D a cs (va_up σ i f) sz s := ⟨hsz, hv2⟩
  subst hsz
  have hw := sH_start hv3
  obtain ⟨-, -, hK, -, hN⟩ := hv3
  have hx := B.exec
  have hb := B.bytes
  have hr := B.returns
  have hts := atoms_spec (ws := wsX1_above) B.pre
  have hown : s.vm.findClass RX1 = some m.cls := findClass_of_methodNamed B.named
  have hlocks := B.notSynchronized
  have hA : ∀ q : Nat, s.heap.size ≤ q → sA a s.heap.size q := sA_new
  have hl := lv_entry ([.ref (a i), .int x, .int y]) (n := 3) (Nat.le_of_ble_eq_true rfl)
  rw [lg_entry_eq]
  generalize (lg_sl ([.ref (a i), .int x, .int y]) ++ List.replicate (3 - (lg_sl ([.ref (a i), .int x, .int y])).length) Slot.unset).toArray = ls at hl ⊢
  have hl : lv_has ls 3 [(0, .ref (a i)), (1, .int x), (2, .int y)] := hl
  refine lv_lconst (v := 0) hx hb dX1_above_0 (by decide) ?_
  refine lv_iload_n hx hb dX1_above_1 rfl (lv_at hl 1 rfl) ?_
  refine lv_i2l hx hb dX1_above_2 rfl ?_
  refine lv_iload_n hx hb dX1_above_3 rfl (lv_at hl 2 rfl) ?_
  refine lv_i2l hx hb dX1_above_4 rfl ?_
  refine lv_aload_n hx hb dX1_above_5 rfl (lv_at hl 0 rfl) ?_
  refine sg_pf hx hb hts iX1_above_X1 hown hK hw hi 1 (f 1) rfl (by decide) (hts _ mX1_above_0) dX1_above_6 ?_
  refine lv_i2l hx hb dX1_above_9 rfl ?_
  refine lv_lmul hx hb dX1_above_10 ?_
  refine lv_lsub hx hb dX1_above_11 ?_
  refine va_mmax_long hx hb (hml.trans hl.1.symm) hown (hts _ mX1_above_2) (hts _ mX1_above_3) (hts _ mX1_above_4) (hts _ mX1_above_5) (Nat.le_of_ble_eq_true rfl) (Nat.le_of_ble_eq_true rfl) (Nat.le_of_ble_eq_true rfl) (Nat.le_of_ble_eq_true rfl) dX1_above_12 ?_
  refine lw_topl (fun x1 ex1 => ?_)
  refine lv_l2i hx hb dX1_above_15 rfl ?_
  exact se_i hx hb hr hlocks hw (by subst ex1; exact rfl) (by subst ex1; rfl) dX1_above_16
theorem mX1_dropMinerals_0 : (Cond.fieldLink RX1 36 "SaltRow$Pond" "gypsum" "I") ∈ wsX1_dropMinerals := by decide +kernel
theorem iX1_dropMinerals_X1 : ∀ w ∈ wsX10, w ∈ wsX1_dropMinerals := by decide +kernel
theorem mX1_dropMinerals_2 : (Cond.fieldLink RX1 25 "SaltRow$Pond" "bitter" "I") ∈ wsX1_dropMinerals := by decide +kernel
theorem mX1_dropMinerals_3 : (Cond.fieldLink RX1 22 "SaltRow$Pond" "salt" "I") ∈ wsX1_dropMinerals := by decide +kernel
theorem mX1_dropMinerals_4 : (Cond.fieldLink RX1 59 "SaltRow$Pond" "saltFallen" "I") ∈ wsX1_dropMinerals := by decide +kernel
theorem mX1_dropMinerals_5 : (Cond.fieldLink RX1 42 "SaltRow$Pond" "crustSalt" "I") ∈ wsX1_dropMinerals := by decide +kernel
theorem mX1_dropMinerals_6 : (Cond.fieldLink RX1 45 "SaltRow$Pond" "crustDirt" "I") ∈ wsX1_dropMinerals := by decide +kernel
set_option maxHeartbeats 4000000 in
set_option maxRecDepth 100000 in
theorem zX1_dropMinerals (l : Launch) (D : va_G) (a : Nat → Nat) (cs : Nat → ClassId) (σ : sS) (i : Nat) (hi : 5 ≤ i ∧ i < 21) (f : Nat → Int32)  : sMv l yX1_dropMinerals wsX1_dropMinerals ({ frames := 2, cells := 0, slots := 0, locals := 47 }) D a cs [.ref (a i)] (va_up σ i f) (va_up σ i (f_X1_dropMinerals f)) := by
  intro sz
  refine Met.ofW (cc := cX1_dropMinerals) (maxL := 3) (ret := none) (by decide) rfl ?_
  intro p e s m args below meth c s₁ B hml hv
  obtain ⟨rfl, hsz, hv2⟩ := hv
  have hv3 : sB D a cs (va_up σ i f) sz s := ⟨hsz, hv2⟩
  subst hsz
  have hw := sH_start hv3
  obtain ⟨-, -, hK, -, hN⟩ := hv3
  have hx := B.exec
  have hb := B.bytes
  have hr := B.returns
  have hts := atoms_spec (ws := wsX1_dropMinerals) B.pre
  have hown : s.vm.findClass RX1 = some m.cls := findClass_of_methodNamed B.named
  have hlocks := B.notSynchronized
  have hA : ∀ q : Nat, s.heap.size ≤ q → sA a s.heap.size q := sA_new
  have hl := lv_entry ([.ref (a i)]) (n := 3) (Nat.le_of_ble_eq_true rfl)
  rw [lg_entry_eq]
  generalize (lg_sl ([.ref (a i)]) ++ List.replicate (3 - (lg_sl ([.ref (a i)])).length) Slot.unset).toArray = ls at hl ⊢
  have hl : lv_has ls 3 [(0, .ref (a i))] := hl
  refine lv_aload_n hx hb dX1_dropMinerals_0 rfl (lv_at hl 0 rfl) ?_
  refine lv_aload_n hx hb dX1_dropMinerals_1 rfl (lv_at hl 0 rfl) ?_
  refine sg_pf hx hb hts iX1_dropMinerals_X1 hown hK hw hi 3 (f 3) rfl (by decide) (hts _ mX1_dropMinerals_0) dX1_dropMinerals_2 ?_
  refine lv_bipush (v := 8) hx hb dX1_dropMinerals_5 (by decide) ?_
  refine sc_i (sr_V (i := i) (As := [.int (f 3), .int 8]) (rest := []) ⟨hx, hb, hml, hown, hts⟩ (zX1_above l D a cs _ i hi _ (f 3) 8 _) (cwV 2 hts gX1_dropMinerals_X1_above rfl rfl rfl (by decide +kernel) ⟨Nat.le_of_ble_eq_true rfl, Nat.le_of_ble_eq_true rfl⟩) hK hN hw (by omega) (sE_p hi) kcX1 rfl hl.1 (Nat.le_of_ble_eq_true rfl) dX1_dropMinerals_7 ⟨Nat.le_of_ble_eq_true rfl, Nat.le_of_ble_eq_true rfl⟩) hw hA (fun H locs hw => ?_)
  refine lv_istore_n (lv' := [(1, .int (f_X1_above f (f 3) 8)), (0, .ref (a i))]) hx hb dX1_dropMinerals_10 rfl hl (by decide) rfl (fun ls hl => ?_)
  refine lv_aload_n hx hb dX1_dropMinerals_11 rfl (lv_at hl 1 rfl) ?_
  refine lv_aload_n hx hb dX1_dropMinerals_12 rfl (lv_at hl 1 rfl) ?_
  refine sg_pf hx hb hts iX1_dropMinerals_X1 hown hK hw hi 4 (f 4) rfl (by decide) (hts _ mX1_dropMinerals_2) dX1_dropMinerals_13 ?_
  refine lv_sipush (v := 200) hx hb dX1_dropMinerals_16 (by decide) ?_
  refine sc_i (sr_V (i := i) (As := [.int (f 4), .int 200]) (rest := []) ⟨hx, hb, hml, hown, hts⟩ (zX1_above l D a cs _ i hi _ (f 4) 200 _) (cwV 2 hts gX1_dropMinerals_X1_above rfl rfl rfl (by decide +kernel) ⟨Nat.le_of_ble_eq_true rfl, Nat.le_of_ble_eq_true rfl⟩) hK hN hw (by omega) (sE_p hi) kcX1 rfl hl.1 (Nat.le_of_ble_eq_true rfl) dX1_dropMinerals_19 ⟨Nat.le_of_ble_eq_true rfl, Nat.le_of_ble_eq_true rfl⟩) hw hA (fun H locs hw => ?_)
  refine lv_istore_n (lv' := [(2, .int (f_X1_above f (f 4) 200)), (1, .int (f_X1_above f (f 3) 8)), (0, .ref (a i))]) hx hb dX1_dropMinerals_22 rfl hl (by decide) rfl (fun ls hl => ?_)
  refine lv_aload_n hx hb dX1_dropMinerals_23 rfl (lv_at hl 2 rfl) ?_
  refine lv_aload_n hx hb dX1_dropMinerals_24 rfl (lv_at hl 2 rfl) ?_
  refine lv_aload_n hx hb dX1_dropMinerals_25 rfl (lv_at hl 2 rfl) ?_
  refine sg_pf hx hb hts iX1_dropMinerals_X1 hown hK hw hi 2 (f 2) rfl (by decide) (hts _ mX1_dropMinerals_3) dX1_dropMinerals_26 ?_
  refine lv_sipush (v := 300) hx hb dX1_dropMinerals_29 (by decide) ?_
  refine sc_i (sr_V (i := i) (As := [.int (f 2), .int 300]) (rest := [.ref (a i)]) ⟨hx, hb, hml, hown, hts⟩ (zX1_above l D a cs _ i hi _ (f 2) 300 _) (cwV 2 hts gX1_dropMinerals_X1_above rfl rfl rfl (by decide +kernel) ⟨Nat.le_of_ble_eq_true rfl, Nat.le_of_ble_eq_true rfl⟩) hK hN hw (by omega) (sE_p hi) kcX1 rfl hl.1 (Nat.le_of_ble_eq_true rfl) dX1_dropMinerals_32 ⟨Nat.le_of_ble_eq_true rfl, Nat.le_of_ble_eq_true rfl⟩) hw hA (fun H locs hw => ?_)
  refine sp_pf hx hb hts iX1_dropMinerals_X1 hown hK hw hi 8 (by decide) (hts _ mX1_dropMinerals_4) dX1_dropMinerals_35 (fun H locs hw => ?_)
  refine lv_aload_n hx hb dX1_dropMinerals_38 rfl (lv_at hl 2 rfl) ?_
  refine lv_dup hx hb dX1_dropMinerals_39 rfl ?_
  refine sg_pf hx hb hts iX1_dropMinerals_X1 hown hK hw hi 3 (f 3) rfl (by decide) (hts _ mX1_dropMinerals_0) dX1_dropMinerals_40 ?_
  refine lv_iload_n hx hb dX1_dropMinerals_43 rfl (lv_at hl 1 rfl) ?_
  refine lv_isub hx hb dX1_dropMinerals_44 ?_
  refine lw_topi (fun x1 ex1 => ?_)
  refine sp_pf hx hb hts iX1_dropMinerals_X1 hown hK hw hi 3 (by decide) (hts _ mX1_dropMinerals_0) dX1_dropMinerals_45 (fun H locs hw => ?_)
  refine lv_aload_n hx hb dX1_dropMinerals_48 rfl (lv_at hl 2 rfl) ?_
  refine lv_dup hx hb dX1_dropMinerals_49 rfl ?_
  refine sg_pf hx hb hts iX1_dropMinerals_X1 hown hK hw hi 2 (f 2) rfl (by decide) (hts _ mX1_dropMinerals_3) dX1_dropMinerals_50 ?_
  refine lv_aload_n hx hb dX1_dropMinerals_53 rfl (lv_at hl 2 rfl) ?_
  refine sg_pf hx hb hts iX1_dropMinerals_X1 hown hK hw hi 8 (f_X1_above f (f 2) 300) rfl (by decide) (hts _ mX1_dropMinerals_4) dX1_dropMinerals_54 ?_
  refine lv_isub hx hb dX1_dropMinerals_57 ?_
  refine lw_topi (fun x2 ex2 => ?_)
  refine sp_pf hx hb hts iX1_dropMinerals_X1 hown hK hw hi 2 (by decide) (hts _ mX1_dropMinerals_3) dX1_dropMinerals_58 (fun H locs hw => ?_)
  refine lv_aload_n hx hb dX1_dropMinerals_61 rfl (lv_at hl 2 rfl) ?_
  refine lv_dup hx hb dX1_dropMinerals_62 rfl ?_
  refine sg_pf hx hb hts iX1_dropMinerals_X1 hown hK hw hi 4 (f 4) rfl (by decide) (hts _ mX1_dropMinerals_2) dX1_dropMinerals_63 ?_
  refine lv_iload_n hx hb dX1_dropMinerals_66 rfl (lv_at hl 0 rfl) ?_
  refine lv_isub hx hb dX1_dropMinerals_67 ?_
  refine lw_topi (fun x3 ex3 => ?_)
  refine sp_pf hx hb hts iX1_dropMinerals_X1 hown hK hw hi 4 (by decide) (hts _ mX1_dropMinerals_2) dX1_dropMinerals_68 (fun H locs hw => ?_)
  refine lv_aload_n hx hb dX1_dropMinerals_71 rfl (lv_at hl 2 rfl) ?_
  refine lv_dup hx hb dX1_dropMinerals_72 rfl ?_
  refine sg_pf hx hb hts iX1_dropMinerals_X1 hown hK hw hi 6 (f 6) rfl (by decide) (hts _ mX1_dropMinerals_5) dX1_dropMinerals_73 ?_
  refine lv_aload_n hx hb dX1_dropMinerals_76 rfl (lv_at hl 2 rfl) ?_
  refine sg_pf hx hb hts iX1_dropMinerals_X1 hown hK hw hi 8 (f_X1_above f (f 2) 300) rfl (by decide) (hts _ mX1_dropMinerals_4) dX1_dropMinerals_77 ?_
  refine lv_iadd hx hb dX1_dropMinerals_80 ?_
  refine lw_topi (fun x4 ex4 => ?_)
  refine sp_pf hx hb hts iX1_dropMinerals_X1 hown hK hw hi 6 (by decide) (hts _ mX1_dropMinerals_5) dX1_dropMinerals_81 (fun H locs hw => ?_)
  refine lv_aload_n hx hb dX1_dropMinerals_84 rfl (lv_at hl 2 rfl) ?_
  refine lv_dup hx hb dX1_dropMinerals_85 rfl ?_
  refine sg_pf hx hb hts iX1_dropMinerals_X1 hown hK hw hi 7 (f 7) rfl (by decide) (hts _ mX1_dropMinerals_6) dX1_dropMinerals_86 ?_
  refine lv_iload_n hx hb dX1_dropMinerals_89 rfl (lv_at hl 1 rfl) ?_
  refine lv_iload_n hx hb dX1_dropMinerals_90 rfl (lv_at hl 0 rfl) ?_
  refine lv_iadd hx hb dX1_dropMinerals_91 ?_
  refine lv_iadd hx hb dX1_dropMinerals_92 ?_
  refine lw_topi (fun x5 ex5 => ?_)
  refine sp_pf hx hb hts iX1_dropMinerals_X1 hown hK hw hi 7 (by decide) (hts _ mX1_dropMinerals_6) dX1_dropMinerals_93 (fun H locs hw => ?_)
  exact se_v hx hb hr hlocks hw (by subst ex5 ex4 ex3 ex2 ex1; exact rfl) dX1_dropMinerals_96
theorem mX1_canBeHarvested_0 : (Cond.fieldLink RX1 42 "SaltRow$Pond" "crustSalt" "I") ∈ wsX1_canBeHarvested := by decide +kernel
theorem iX1_canBeHarvested_X1 : ∀ w ∈ wsX10, w ∈ wsX1_canBeHarvested := by decide +kernel
theorem mX1_canBeHarvested_2 : (Cond.fieldLink RX1 55 "SaltRow$Pond" "wasHarvested" "Z") ∈ wsX1_canBeHarvested := by decide +kernel
set_option maxHeartbeats 4000000 in
set_option maxRecDepth 100000 in
theorem zX1_canBeHarvested (l : Launch) (D : va_G) (a : Nat → Nat) (cs : Nat → ClassId) (σ : sS) (i : Nat) (hi : 5 ≤ i ∧ i < 21) (f : Nat → Int32)  : sMi l yX1_canBeHarvested wsX1_canBeHarvested ({ frames := 0, cells := 0, slots := 0, locals := 0 }) D a cs [.ref (a i)] (va_up σ i f) (f_X1_canBeHarvested f) (va_up σ i f) := by
  intro sz
  refine Met.ofW (cc := cX1_canBeHarvested) (maxL := 1) (ret := (some .boolean)) (by decide) rfl ?_
  intro p e s m args below meth c s₁ B hml hv
  obtain ⟨rfl, hsz, hv2⟩ := hv
  have hv3 : sB D a cs (va_up σ i f) sz s := ⟨hsz, hv2⟩
  subst hsz
  have hw := sH_start hv3
  obtain ⟨-, -, hK, -, hN⟩ := hv3
  have hx := B.exec
  have hb := B.bytes
  have hr := B.returns
  have hts := atoms_spec (ws := wsX1_canBeHarvested) B.pre
  have hown : s.vm.findClass RX1 = some m.cls := findClass_of_methodNamed B.named
  have hlocks := B.notSynchronized
  have hA : ∀ q : Nat, s.heap.size ≤ q → sA a s.heap.size q := sA_new
  have hl := lv_entry ([.ref (a i)]) (n := 1) (Nat.le_of_ble_eq_true rfl)
  rw [lg_entry_eq]
  generalize (lg_sl ([.ref (a i)]) ++ List.replicate (1 - (lg_sl ([.ref (a i)])).length) Slot.unset).toArray = ls at hl ⊢
  have hl : lv_has ls 1 [(0, .ref (a i))] := hl
  refine lv_aload_n hx hb dX1_canBeHarvested_0 rfl (lv_at hl 0 rfl) ?_
  refine sg_pf hx hb hts iX1_canBeHarvested_X1 hown hK hw hi 6 (f 6) rfl (by decide) (hts _ mX1_canBeHarvested_0) dX1_canBeHarvested_1 ?_
  refine lv_if_le (tgt := 18) hx hb dX1_canBeHarvested_4 (by decide) (fun c1 => ?_) (fun c1 => ?_)
  · refine lv_iconst (v := 0) hx hb dX1_canBeHarvested_18 (by decide) ?_
    exact se_z hx hb hr hlocks hw (Or.inl rfl) (by unfold f_X1_canBeHarvested; rw [if_pos c1] <;> rfl) (by rfl) dX1_canBeHarvested_19
  · refine lv_aload_n hx hb dX1_canBeHarvested_7 rfl (lv_at hl 0 rfl) ?_
    refine sg_pf hx hb hts iX1_canBeHarvested_X1 hown hK hw hi 11 (f 11) rfl (by decide) (hts _ mX1_canBeHarvested_2) dX1_canBeHarvested_8 ?_
    refine lv_if_ne (tgt := 18) hx hb dX1_canBeHarvested_11 (by decide) (fun c2 => ?_) (fun c2 => ?_)
    · refine lv_iconst (v := 0) hx hb dX1_canBeHarvested_18 (by decide) ?_
      exact se_z hx hb hr hlocks hw (Or.inl rfl) (by unfold f_X1_canBeHarvested; rw [if_neg c1, if_neg c2] <;> rfl) (by rfl) dX1_canBeHarvested_19
    · refine lv_iconst (v := 1) hx hb dX1_canBeHarvested_14 (by decide) ?_
      refine lv_goto (tgt := 19) hx hb dX1_canBeHarvested_15 (by decide) ?_
      exact se_z hx hb hr hlocks hw (Or.inr rfl) (by unfold f_X1_canBeHarvested; rw [if_neg c1, if_pos c2] <;> rfl) (by rfl) dX1_canBeHarvested_19
theorem mX1_saltOfHarvest_0 : (Cond.fieldLink RX1 42 "SaltRow$Pond" "crustSalt" "I") ∈ wsX1_saltOfHarvest := by decide +kernel
theorem iX1_saltOfHarvest_X1 : ∀ w ∈ wsX10, w ∈ wsX1_saltOfHarvest := by decide +kernel
theorem mX1_saltOfHarvest_2 : (Cond.fieldLink RX1 9 "SaltRow$Pond" "area" "I") ∈ wsX1_saltOfHarvest := by decide +kernel
theorem mX1_saltOfHarvest_3 : (Cond.methodLink RX1 30 Lib.Math.min.name) ∈ wsX1_saltOfHarvest := by decide +kernel
theorem mX1_saltOfHarvest_4 : (Cond.static Lib.Math.min.name) ∈ wsX1_saltOfHarvest := by decide +kernel
theorem mX1_saltOfHarvest_5 : (Cond.initialized "java/lang/Math") ∈ wsX1_saltOfHarvest := by decide +kernel
theorem mX1_saltOfHarvest_6 : (Cond.code Lib.Math.min.name Lib.Math.min.code 2 (some .int)) ∈ wsX1_saltOfHarvest := by decide +kernel
set_option maxHeartbeats 4000000 in
set_option maxRecDepth 100000 in
theorem zX1_saltOfHarvest (l : Launch) (D : va_G) (a : Nat → Nat) (cs : Nat → ClassId) (σ : sS) (i : Nat) (hi : 5 ≤ i ∧ i < 21) (f : Nat → Int32) (x : Int32) : sMi l yX1_saltOfHarvest wsX1_saltOfHarvest ({ frames := 1, cells := 0, slots := 0, locals := 25 }) D a cs [.ref (a i), .int x] (va_up σ i f) (f_X1_saltOfHarvest f x) (va_up σ i f) := by
  intro sz
  refine Met.ofW (cc := cX1_saltOfHarvest) (maxL := 2) (ret := (some .int)) (by decide) rfl ?_
  intro p e s m args below meth c s₁ B hml hv
  obtain ⟨rfl, hsz, hv2⟩ := hv
  have hv3 : sB D a cs (va_up σ i f) sz s := ⟨hsz, hv2⟩
  subst hsz
  have hw := sH_start hv3
  obtain ⟨-, -, hK, -, hN⟩ := hv3
  have hx := B.exec
  have hb := B.bytes
  have hr := B.returns
  have hts := atoms_spec (ws := wsX1_saltOfHarvest) B.pre
  have hown : s.vm.findClass RX1 = some m.cls := findClass_of_methodNamed B.named
  have hlocks := B.notSynchronized
  have hA : ∀ q : Nat, s.heap.size ≤ q → sA a s.heap.size q := sA_new
  have hl := lv_entry ([.ref (a i), .int x]) (n := 2) (Nat.le_of_ble_eq_true rfl)
  rw [lg_entry_eq]
  generalize (lg_sl ([.ref (a i), .int x]) ++ List.replicate (2 - (lg_sl ([.ref (a i), .int x])).length) Slot.unset).toArray = ls at hl ⊢
  have hl : lv_has ls 2 [(0, .ref (a i)), (1, .int x)] := hl
  refine lv_iload_n hx hb dX1_saltOfHarvest_0 rfl (lv_at hl 1 rfl) ?_
  refine lv_if_eq (tgt := 11) hx hb dX1_saltOfHarvest_1 (by decide) (fun c1 => ?_) (fun c1 => ?_)
  · refine lv_aload_n hx hb dX1_saltOfHarvest_11 rfl (lv_at hl 0 rfl) ?_
    refine sg_pf hx hb hts iX1_saltOfHarvest_X1 hown hK hw hi 6 (f 6) rfl (by decide) (hts _ mX1_saltOfHarvest_0) dX1_saltOfHarvest_12 ?_
    refine lv_sipush (v := 200) hx hb dX1_saltOfHarvest_15 (by decide) ?_
    refine lv_aload_n hx hb dX1_saltOfHarvest_18 rfl (lv_at hl 0 rfl) ?_
    refine sg_pf hx hb hts iX1_saltOfHarvest_X1 hown hK hw hi 0 (f 0) rfl (by decide) (hts _ mX1_saltOfHarvest_2) dX1_saltOfHarvest_19 ?_
    refine lv_imul hx hb dX1_saltOfHarvest_22 ?_
    refine va_mmin hx hb (hml.trans hl.1.symm) hown (hts _ mX1_saltOfHarvest_3) (hts _ mX1_saltOfHarvest_4) (hts _ mX1_saltOfHarvest_5) (hts _ mX1_saltOfHarvest_6) (Nat.le_of_ble_eq_true rfl) (Nat.le_of_ble_eq_true rfl) (Nat.le_of_ble_eq_true rfl) (Nat.le_of_ble_eq_true rfl) dX1_saltOfHarvest_23 ?_
    refine lw_topi (fun x2 ex2 => ?_)
    exact se_i hx hb hr hlocks hw (by subst ex2; unfold f_X1_saltOfHarvest; rw [if_pos c1] <;> rfl) (by subst ex2; rfl) dX1_saltOfHarvest_26
  · refine lv_aload_n hx hb dX1_saltOfHarvest_4 rfl (lv_at hl 0 rfl) ?_
    refine sg_pf hx hb hts iX1_saltOfHarvest_X1 hown hK hw hi 6 (f 6) rfl (by decide) (hts _ mX1_saltOfHarvest_0) dX1_saltOfHarvest_5 ?_
    refine lv_goto (tgt := 26) hx hb dX1_saltOfHarvest_8 (by decide) ?_
    exact se_i hx hb hr hlocks hw (by unfold f_X1_saltOfHarvest; rw [if_neg c1] <;> rfl) (by rfl) dX1_saltOfHarvest_26
theorem mX1_dirtOfCrustWith_0 : (Cond.fieldLink RX1 45 "SaltRow$Pond" "crustDirt" "I") ∈ wsX1_dirtOfCrustWith := by decide +kernel
theorem iX1_dirtOfCrustWith_X1 : ∀ w ∈ wsX10, w ∈ wsX1_dirtOfCrustWith := by decide +kernel
theorem mX1_dirtOfCrustWith_2 : (Cond.fieldLink RX1 42 "SaltRow$Pond" "crustSalt" "I") ∈ wsX1_dirtOfCrustWith := by decide +kernel
theorem mX1_dirtOfCrustWith_3 : (Cond.initialized RX3) ∈ wsX1_dirtOfCrustWith := by decide +kernel
theorem mX1_dirtOfCrustWith_4 : (Cond.static yX3_portion) ∈ wsX1_dirtOfCrustWith := by decide +kernel
set_option maxHeartbeats 4000000 in
set_option maxRecDepth 100000 in
theorem zX1_dirtOfCrustWith (l : Launch) (D : va_G) (a : Nat → Nat) (cs : Nat → ClassId) (σ : sS) (i : Nat) (hi : 5 ≤ i ∧ i < 21) (f : Nat → Int32) (x : Int32) : sMi l yX1_dirtOfCrustWith wsX1_dirtOfCrustWith ({ frames := 1, cells := 0, slots := 0, locals := 25 }) D a cs [.ref (a i), .int x] (va_up σ i f) (f_X1_dirtOfCrustWith f x) (va_up σ i f) := by
  intro sz
  refine Met.ofW (cc := cX1_dirtOfCrustWith) (maxL := 2) (ret := (some .int)) (by decide) rfl ?_
  intro p e s m args below meth c s₁ B hml hv
  obtain ⟨rfl, hsz, hv2⟩ := hv
  have hv3 : sB D a cs (va_up σ i f) sz s := ⟨hsz, hv2⟩
  subst hsz
  have hw := sH_start hv3
  obtain ⟨-, -, hK, -, hN⟩ := hv3
  have hx := B.exec
  have hb := B.bytes
  have hr := B.returns
  have hts := atoms_spec (ws := wsX1_dirtOfCrustWith) B.pre
  have hown : s.vm.findClass RX1 = some m.cls := findClass_of_methodNamed B.named
  have hlocks := B.notSynchronized
  have hA : ∀ q : Nat, s.heap.size ≤ q → sA a s.heap.size q := sA_new
  have hl := lv_entry ([.ref (a i), .int x]) (n := 2) (Nat.le_of_ble_eq_true rfl)
  rw [lg_entry_eq]
  generalize (lg_sl ([.ref (a i), .int x]) ++ List.replicate (2 - (lg_sl ([.ref (a i), .int x])).length) Slot.unset).toArray = ls at hl ⊢
  have hl : lv_has ls 2 [(0, .ref (a i)), (1, .int x)] := hl
  refine lv_aload_n hx hb dX1_dirtOfCrustWith_0 rfl (lv_at hl 0 rfl) ?_
  refine sg_pf hx hb hts iX1_dirtOfCrustWith_X1 hown hK hw hi 7 (f 7) rfl (by decide) (hts _ mX1_dirtOfCrustWith_0) dX1_dirtOfCrustWith_1 ?_
  refine lv_i2l hx hb dX1_dirtOfCrustWith_4 rfl ?_
  refine lv_iload_n hx hb dX1_dirtOfCrustWith_5 rfl (lv_at hl 1 rfl) ?_
  refine lv_i2l hx hb dX1_dirtOfCrustWith_6 rfl ?_
  refine lv_aload_n hx hb dX1_dirtOfCrustWith_7 rfl (lv_at hl 0 rfl) ?_
  refine sg_pf hx hb hts iX1_dirtOfCrustWith_X1 hown hK hw hi 6 (f 6) rfl (by decide) (hts _ mX1_dirtOfCrustWith_2) dX1_dirtOfCrustWith_8 ?_
  refine lv_i2l hx hb dX1_dirtOfCrustWith_11 rfl ?_
  refine sc_i (sr_N (As := [.long ((f 7).toInt64), .long x.toInt64, .long ((f 6).toInt64)]) (rest := []) ⟨hx, hb, hml, hown, hts⟩ (zX3_portion l D a cs _ ((f 7).toInt64) x.toInt64 ((f 6).toInt64) _) (va_cnB 3 hts gX1_dirtOfCrustWith_X3_portion_n18 rfl rfl rfl (sN_X1_X3_portion hN) (hts _ mX1_dirtOfCrustWith_3) (by decide +kernel) ⟨Nat.le_of_ble_eq_true rfl, Nat.le_of_ble_eq_true rfl⟩) (hts _ mX1_dirtOfCrustWith_4) hK hN hw rfl hl.1 (Nat.le_of_ble_eq_true rfl) dX1_dirtOfCrustWith_12 ⟨Nat.le_of_ble_eq_true rfl, Nat.le_of_ble_eq_true rfl⟩) hw hA (fun H locs hw => ?_)
  exact se_i hx hb hr hlocks hw (by exact rfl) (by rfl) dX1_dirtOfCrustWith_15
theorem mX1_dirtOfFloor_0 : (Cond.fieldLink RX1 9 "SaltRow$Pond" "area" "I") ∈ wsX1_dirtOfFloor := by decide +kernel
theorem iX1_dirtOfFloor_X1 : ∀ w ∈ wsX10, w ∈ wsX1_dirtOfFloor := by decide +kernel
set_option maxHeartbeats 4000000 in
set_option maxRecDepth 100000 in
theorem zX1_dirtOfFloor (l : Launch) (D : va_G) (a : Nat → Nat) (cs : Nat → ClassId) (σ : sS) (i : Nat) (hi : 5 ≤ i ∧ i < 21) (f : Nat → Int32) (x : Int32) : sMi l yX1_dirtOfFloor wsX1_dirtOfFloor ({ frames := 0, cells := 0, slots := 0, locals := 0 }) D a cs [.ref (a i), .int x] (va_up σ i f) (f_X1_dirtOfFloor f x) (va_up σ i f) := by
  intro sz
  refine Met.ofW (cc := cX1_dirtOfFloor) (maxL := 2) (ret := (some .int)) (by decide) rfl ?_
  intro p e s m args below meth c s₁ B hml hv
  obtain ⟨rfl, hsz, hv2⟩ := hv
  have hv3 : sB D a cs (va_up σ i f) sz s := ⟨hsz, hv2⟩
  subst hsz
  have hw := sH_start hv3
  obtain ⟨-, -, hK, -, hN⟩ := hv3
  have hx := B.exec
  have hb := B.bytes
  have hr := B.returns
  have hts := atoms_spec (ws := wsX1_dirtOfFloor) B.pre
  have hown : s.vm.findClass RX1 = some m.cls := findClass_of_methodNamed B.named
  have hlocks := B.notSynchronized
  have hA : ∀ q : Nat, s.heap.size ≤ q → sA a s.heap.size q := sA_new
  have hl := lv_entry ([.ref (a i), .int x]) (n := 2) (Nat.le_of_ble_eq_true rfl)
  rw [lg_entry_eq]
  generalize (lg_sl ([.ref (a i), .int x]) ++ List.replicate (2 - (lg_sl ([.ref (a i), .int x])).length) Slot.unset).toArray = ls at hl ⊢
  have hl : lv_has ls 2 [(0, .ref (a i)), (1, .int x)] := hl
  refine lv_iload_n hx hb dX1_dirtOfFloor_0 rfl (lv_at hl 1 rfl) ?_
  refine lv_if_eq (tgt := 14) hx hb dX1_dirtOfFloor_1 (by decide) (fun c1 => ?_) (fun c1 => ?_)
  · refine lv_iconst (v := 0) hx hb dX1_dirtOfFloor_14 (by decide) ?_
    exact se_i hx hb hr hlocks hw (by unfold f_X1_dirtOfFloor; rw [if_pos c1] <;> rfl) (by rfl) dX1_dirtOfFloor_15
  · refine lv_bipush (v := 10) hx hb dX1_dirtOfFloor_4 (by decide) ?_
    refine lv_aload_n hx hb dX1_dirtOfFloor_6 rfl (lv_at hl 0 rfl) ?_
    refine sg_pf hx hb hts iX1_dirtOfFloor_X1 hown hK hw hi 0 (f 0) rfl (by decide) (hts _ mX1_dirtOfFloor_0) dX1_dirtOfFloor_7 ?_
    refine lv_imul hx hb dX1_dirtOfFloor_10 ?_
    refine lv_goto (tgt := 15) hx hb dX1_dirtOfFloor_11 (by decide) ?_
    exact se_i hx hb hr hlocks hw (by unfold f_X1_dirtOfFloor; rw [if_neg c1] <;> rfl) (by rfl) dX1_dirtOfFloor_15
end
section
theorem mX1_read_0_0 : (Cond.fieldLink RX1 9 "SaltRow$Pond" "area" "I") ∈ wsX1_read := by decide +kernel
theorem iX1_read_X1_0 : ∀ w ∈ wsX10, w ∈ wsX1_read := by decide +kernel
set_option maxHeartbeats 4000000 in
set_option maxRecDepth 100000 in
theorem zX1_read_0 (l : Launch) (D : va_G) (a : Nat → Nat) (cs : Nat → ClassId) (σ : sS) (i : Nat) (hi : 5 ≤ i ∧ i < 21) (f : Nat → Int32)  : sMi l yX1_read wsX1_read ({ frames := 2, cells := 0, slots := 0, locals := 45 }) D a cs [.ref (a i), .int (nI 0)] (va_up σ i f) (f_X1_read f 0) (va_up σ i f) := by
  intro sz
  refine Met.ofW (cc := cX1_read) (maxL := 2) (ret := (some .int)) (by decide) rfl ?_
  intro p e s m args below meth c s₁ B hml hv
  obtain ⟨rfl, hsz, hv2⟩ := hv
  have hv3 : sB D a cs (va_up σ i f) sz s := ⟨hsz, hv2⟩
  subst hsz
  have hw := sH_start hv3
  obtain ⟨-, -, hK, -, hN⟩ := hv3
  have hx := B.exec
  have hb := B.bytes
  have hr := B.returns
  have hts := atoms_spec (ws := wsX1_read) B.pre
  have hown : s.vm.findClass RX1 = some m.cls := findClass_of_methodNamed B.named
  have hlocks := B.notSynchronized
  have hA : ∀ q : Nat, s.heap.size ≤ q → sA a s.heap.size q := sA_new
  have hl := lv_entry ([.ref (a i), .int (nI 0)]) (n := 2) (Nat.le_of_ble_eq_true rfl)
  rw [lg_entry_eq]
  generalize (lg_sl ([.ref (a i), .int (nI 0)]) ++ List.replicate (2 - (lg_sl ([.ref (a i), .int (nI 0)])).length) Slot.unset).toArray = ls at hl ⊢
  have hl : lv_has ls 2 [(0, .ref (a i)), (1, .int (nI 0))] := hl
  refine lv_iload_n hx hb dX1_read_0 rfl (lv_at hl 1 rfl) ?_
  refine lv_tableIn (tgt := 56) hx hb dX1_read_1 (by decide) (by decide) (off := 55) (by decide +kernel) (by decide) ?_
  refine lv_aload_n hx hb dX1_read_56 rfl (lv_at hl 0 rfl) ?_
  refine sg_pf hx hb hts iX1_read_X1_0 hown hK hw hi 0 (f 0) rfl (by decide) (hts _ mX1_read_0_0) dX1_read_57 ?_
  exact se_i hx hb hr hlocks hw (by rfl) (by rfl) dX1_read_60
theorem mX1_read_0_1 : (Cond.fieldLink RX1 15 "SaltRow$Pond" "brine" "I") ∈ wsX1_read := by decide +kernel
theorem iX1_read_X1_1 : ∀ w ∈ wsX10, w ∈ wsX1_read := by decide +kernel
set_option maxHeartbeats 4000000 in
set_option maxRecDepth 100000 in
theorem zX1_read_1 (l : Launch) (D : va_G) (a : Nat → Nat) (cs : Nat → ClassId) (σ : sS) (i : Nat) (hi : 5 ≤ i ∧ i < 21) (f : Nat → Int32)  : sMi l yX1_read wsX1_read ({ frames := 2, cells := 0, slots := 0, locals := 45 }) D a cs [.ref (a i), .int (nI 1)] (va_up σ i f) (f_X1_read f 1) (va_up σ i f) := by
  intro sz
  refine Met.ofW (cc := cX1_read) (maxL := 2) (ret := (some .int)) (by decide) rfl ?_
  intro p e s m args below meth c s₁ B hml hv
  obtain ⟨rfl, hsz, hv2⟩ := hv
  have hv3 : sB D a cs (va_up σ i f) sz s := ⟨hsz, hv2⟩
  subst hsz
  have hw := sH_start hv3
  obtain ⟨-, -, hK, -, hN⟩ := hv3
  have hx := B.exec
  have hb := B.bytes
  have hr := B.returns
  have hts := atoms_spec (ws := wsX1_read) B.pre
  have hown : s.vm.findClass RX1 = some m.cls := findClass_of_methodNamed B.named
  have hlocks := B.notSynchronized
  have hA : ∀ q : Nat, s.heap.size ≤ q → sA a s.heap.size q := sA_new
  have hl := lv_entry ([.ref (a i), .int (nI 1)]) (n := 2) (Nat.le_of_ble_eq_true rfl)
  rw [lg_entry_eq]
  generalize (lg_sl ([.ref (a i), .int (nI 1)]) ++ List.replicate (2 - (lg_sl ([.ref (a i), .int (nI 1)])).length) Slot.unset).toArray = ls at hl ⊢
  have hl : lv_has ls 2 [(0, .ref (a i)), (1, .int (nI 1))] := hl
  refine lv_iload_n hx hb dX1_read_0 rfl (lv_at hl 1 rfl) ?_
  refine lv_tableIn (tgt := 61) hx hb dX1_read_1 (by decide) (by decide) (off := 60) (by decide +kernel) (by decide) ?_
  refine lv_aload_n hx hb dX1_read_61 rfl (lv_at hl 0 rfl) ?_
  refine sg_pf hx hb hts iX1_read_X1_1 hown hK hw hi 1 (f 1) rfl (by decide) (hts _ mX1_read_0_1) dX1_read_62 ?_
  exact se_i hx hb hr hlocks hw (by rfl) (by rfl) dX1_read_65
theorem mX1_read_0_2 : (Cond.fieldLink RX1 22 "SaltRow$Pond" "salt" "I") ∈ wsX1_read := by decide +kernel
theorem iX1_read_X1_2 : ∀ w ∈ wsX10, w ∈ wsX1_read := by decide +kernel
set_option maxHeartbeats 4000000 in
set_option maxRecDepth 100000 in
theorem zX1_read_2 (l : Launch) (D : va_G) (a : Nat → Nat) (cs : Nat → ClassId) (σ : sS) (i : Nat) (hi : 5 ≤ i ∧ i < 21) (f : Nat → Int32)  : sMi l yX1_read wsX1_read ({ frames := 2, cells := 0, slots := 0, locals := 45 }) D a cs [.ref (a i), .int (nI 2)] (va_up σ i f) (f_X1_read f 2) (va_up σ i f) := by
  intro sz
  refine Met.ofW (cc := cX1_read) (maxL := 2) (ret := (some .int)) (by decide) rfl ?_
  intro p e s m args below meth c s₁ B hml hv
  obtain ⟨rfl, hsz, hv2⟩ := hv
  have hv3 : sB D a cs (va_up σ i f) sz s := ⟨hsz, hv2⟩
  subst hsz
  have hw := sH_start hv3
  obtain ⟨-, -, hK, -, hN⟩ := hv3
  have hx := B.exec
  have hb := B.bytes
  have hr := B.returns
  have hts := atoms_spec (ws := wsX1_read) B.pre
  have hown : s.vm.findClass RX1 = some m.cls := findClass_of_methodNamed B.named
  have hlocks := B.notSynchronized
  have hA : ∀ q : Nat, s.heap.size ≤ q → sA a s.heap.size q := sA_new
  have hl := lv_entry ([.ref (a i), .int (nI 2)]) (n := 2) (Nat.le_of_ble_eq_true rfl)
  rw [lg_entry_eq]
  generalize (lg_sl ([.ref (a i), .int (nI 2)]) ++ List.replicate (2 - (lg_sl ([.ref (a i), .int (nI 2)])).length) Slot.unset).toArray = ls at hl ⊢
  have hl : lv_has ls 2 [(0, .ref (a i)), (1, .int (nI 2))] := hl
  refine lv_iload_n hx hb dX1_read_0 rfl (lv_at hl 1 rfl) ?_
  refine lv_tableIn (tgt := 66) hx hb dX1_read_1 (by decide) (by decide) (off := 65) (by decide +kernel) (by decide) ?_
  refine lv_aload_n hx hb dX1_read_66 rfl (lv_at hl 0 rfl) ?_
  refine sg_pf hx hb hts iX1_read_X1_2 hown hK hw hi 2 (f 2) rfl (by decide) (hts _ mX1_read_0_2) dX1_read_67 ?_
  exact se_i hx hb hr hlocks hw (by rfl) (by rfl) dX1_read_70
theorem mX1_read_0_3 : (Cond.fieldLink RX1 36 "SaltRow$Pond" "gypsum" "I") ∈ wsX1_read := by decide +kernel
theorem iX1_read_X1_3 : ∀ w ∈ wsX10, w ∈ wsX1_read := by decide +kernel
set_option maxHeartbeats 4000000 in
set_option maxRecDepth 100000 in
theorem zX1_read_3 (l : Launch) (D : va_G) (a : Nat → Nat) (cs : Nat → ClassId) (σ : sS) (i : Nat) (hi : 5 ≤ i ∧ i < 21) (f : Nat → Int32)  : sMi l yX1_read wsX1_read ({ frames := 2, cells := 0, slots := 0, locals := 45 }) D a cs [.ref (a i), .int (nI 3)] (va_up σ i f) (f_X1_read f 3) (va_up σ i f) := by
  intro sz
  refine Met.ofW (cc := cX1_read) (maxL := 2) (ret := (some .int)) (by decide) rfl ?_
  intro p e s m args below meth c s₁ B hml hv
  obtain ⟨rfl, hsz, hv2⟩ := hv
  have hv3 : sB D a cs (va_up σ i f) sz s := ⟨hsz, hv2⟩
  subst hsz
  have hw := sH_start hv3
  obtain ⟨-, -, hK, -, hN⟩ := hv3
  have hx := B.exec
  have hb := B.bytes
  have hr := B.returns
  have hts := atoms_spec (ws := wsX1_read) B.pre
  have hown : s.vm.findClass RX1 = some m.cls := findClass_of_methodNamed B.named
  have hlocks := B.notSynchronized
  have hA : ∀ q : Nat, s.heap.size ≤ q → sA a s.heap.size q := sA_new
  have hl := lv_entry ([.ref (a i), .int (nI 3)]) (n := 2) (Nat.le_of_ble_eq_true rfl)
  rw [lg_entry_eq]
  generalize (lg_sl ([.ref (a i), .int (nI 3)]) ++ List.replicate (2 - (lg_sl ([.ref (a i), .int (nI 3)])).length) Slot.unset).toArray = ls at hl ⊢
  have hl : lv_has ls 2 [(0, .ref (a i)), (1, .int (nI 3))] := hl
  refine lv_iload_n hx hb dX1_read_0 rfl (lv_at hl 1 rfl) ?_
  refine lv_tableIn (tgt := 71) hx hb dX1_read_1 (by decide) (by decide) (off := 70) (by decide +kernel) (by decide) ?_
  refine lv_aload_n hx hb dX1_read_71 rfl (lv_at hl 0 rfl) ?_
  refine sg_pf hx hb hts iX1_read_X1_3 hown hK hw hi 3 (f 3) rfl (by decide) (hts _ mX1_read_0_3) dX1_read_72 ?_
  exact se_i hx hb hr hlocks hw (by rfl) (by rfl) dX1_read_75
theorem mX1_read_0_4 : (Cond.fieldLink RX1 25 "SaltRow$Pond" "bitter" "I") ∈ wsX1_read := by decide +kernel
theorem iX1_read_X1_4 : ∀ w ∈ wsX10, w ∈ wsX1_read := by decide +kernel
set_option maxHeartbeats 4000000 in
set_option maxRecDepth 100000 in
theorem zX1_read_4 (l : Launch) (D : va_G) (a : Nat → Nat) (cs : Nat → ClassId) (σ : sS) (i : Nat) (hi : 5 ≤ i ∧ i < 21) (f : Nat → Int32)  : sMi l yX1_read wsX1_read ({ frames := 2, cells := 0, slots := 0, locals := 45 }) D a cs [.ref (a i), .int (nI 4)] (va_up σ i f) (f_X1_read f 4) (va_up σ i f) := by
  intro sz
  refine Met.ofW (cc := cX1_read) (maxL := 2) (ret := (some .int)) (by decide) rfl ?_
  intro p e s m args below meth c s₁ B hml hv
  obtain ⟨rfl, hsz, hv2⟩ := hv
  have hv3 : sB D a cs (va_up σ i f) sz s := ⟨hsz, hv2⟩
  subst hsz
  have hw := sH_start hv3
  obtain ⟨-, -, hK, -, hN⟩ := hv3
  have hx := B.exec
  have hb := B.bytes
  have hr := B.returns
  have hts := atoms_spec (ws := wsX1_read) B.pre
  have hown : s.vm.findClass RX1 = some m.cls := findClass_of_methodNamed B.named
  have hlocks := B.notSynchronized
  have hA : ∀ q : Nat, s.heap.size ≤ q → sA a s.heap.size q := sA_new
  have hl := lv_entry ([.ref (a i), .int (nI 4)]) (n := 2) (Nat.le_of_ble_eq_true rfl)
  rw [lg_entry_eq]
  generalize (lg_sl ([.ref (a i), .int (nI 4)]) ++ List.replicate (2 - (lg_sl ([.ref (a i), .int (nI 4)])).length) Slot.unset).toArray = ls at hl ⊢
  have hl : lv_has ls 2 [(0, .ref (a i)), (1, .int (nI 4))] := hl
  refine lv_iload_n hx hb dX1_read_0 rfl (lv_at hl 1 rfl) ?_
  refine lv_tableIn (tgt := 76) hx hb dX1_read_1 (by decide) (by decide) (off := 75) (by decide +kernel) (by decide) ?_
  refine lv_aload_n hx hb dX1_read_76 rfl (lv_at hl 0 rfl) ?_
  refine sg_pf hx hb hts iX1_read_X1_4 hown hK hw hi 4 (f 4) rfl (by decide) (hts _ mX1_read_0_4) dX1_read_77 ?_
  exact se_i hx hb hr hlocks hw (by rfl) (by rfl) dX1_read_80
theorem mX1_read_0_5 : (Cond.fieldLink RX1 39 "SaltRow$Pond" "fresh" "I") ∈ wsX1_read := by decide +kernel
theorem iX1_read_X1_5 : ∀ w ∈ wsX10, w ∈ wsX1_read := by decide +kernel
set_option maxHeartbeats 4000000 in
set_option maxRecDepth 100000 in
theorem zX1_read_5 (l : Launch) (D : va_G) (a : Nat → Nat) (cs : Nat → ClassId) (σ : sS) (i : Nat) (hi : 5 ≤ i ∧ i < 21) (f : Nat → Int32)  : sMi l yX1_read wsX1_read ({ frames := 2, cells := 0, slots := 0, locals := 45 }) D a cs [.ref (a i), .int (nI 5)] (va_up σ i f) (f_X1_read f 5) (va_up σ i f) := by
  intro sz
  refine Met.ofW (cc := cX1_read) (maxL := 2) (ret := (some .int)) (by decide) rfl ?_
  intro p e s m args below meth c s₁ B hml hv
  obtain ⟨rfl, hsz, hv2⟩ := hv
  have hv3 : sB D a cs (va_up σ i f) sz s := ⟨hsz, hv2⟩
  subst hsz
  have hw := sH_start hv3
  obtain ⟨-, -, hK, -, hN⟩ := hv3
  have hx := B.exec
  have hb := B.bytes
  have hr := B.returns
  have hts := atoms_spec (ws := wsX1_read) B.pre
  have hown : s.vm.findClass RX1 = some m.cls := findClass_of_methodNamed B.named
  have hlocks := B.notSynchronized
  have hA : ∀ q : Nat, s.heap.size ≤ q → sA a s.heap.size q := sA_new
  have hl := lv_entry ([.ref (a i), .int (nI 5)]) (n := 2) (Nat.le_of_ble_eq_true rfl)
  rw [lg_entry_eq]
  generalize (lg_sl ([.ref (a i), .int (nI 5)]) ++ List.replicate (2 - (lg_sl ([.ref (a i), .int (nI 5)])).length) Slot.unset).toArray = ls at hl ⊢
  have hl : lv_has ls 2 [(0, .ref (a i)), (1, .int (nI 5))] := hl
  refine lv_iload_n hx hb dX1_read_0 rfl (lv_at hl 1 rfl) ?_
  refine lv_tableIn (tgt := 81) hx hb dX1_read_1 (by decide) (by decide) (off := 80) (by decide +kernel) (by decide) ?_
  refine lv_aload_n hx hb dX1_read_81 rfl (lv_at hl 0 rfl) ?_
  refine sg_pf hx hb hts iX1_read_X1_5 hown hK hw hi 5 (f 5) rfl (by decide) (hts _ mX1_read_0_5) dX1_read_82 ?_
  exact se_i hx hb hr hlocks hw (by rfl) (by rfl) dX1_read_85
theorem mX1_read_0_6 : (Cond.fieldLink RX1 42 "SaltRow$Pond" "crustSalt" "I") ∈ wsX1_read := by decide +kernel
theorem iX1_read_X1_6 : ∀ w ∈ wsX10, w ∈ wsX1_read := by decide +kernel
set_option maxHeartbeats 4000000 in
set_option maxRecDepth 100000 in
theorem zX1_read_6 (l : Launch) (D : va_G) (a : Nat → Nat) (cs : Nat → ClassId) (σ : sS) (i : Nat) (hi : 5 ≤ i ∧ i < 21) (f : Nat → Int32)  : sMi l yX1_read wsX1_read ({ frames := 2, cells := 0, slots := 0, locals := 45 }) D a cs [.ref (a i), .int (nI 6)] (va_up σ i f) (f_X1_read f 6) (va_up σ i f) := by
  intro sz
  refine Met.ofW (cc := cX1_read) (maxL := 2) (ret := (some .int)) (by decide) rfl ?_
  intro p e s m args below meth c s₁ B hml hv
  obtain ⟨rfl, hsz, hv2⟩ := hv
  have hv3 : sB D a cs (va_up σ i f) sz s := ⟨hsz, hv2⟩
  subst hsz
  have hw := sH_start hv3
  obtain ⟨-, -, hK, -, hN⟩ := hv3
  have hx := B.exec
  have hb := B.bytes
  have hr := B.returns
  have hts := atoms_spec (ws := wsX1_read) B.pre
  have hown : s.vm.findClass RX1 = some m.cls := findClass_of_methodNamed B.named
  have hlocks := B.notSynchronized
  have hA : ∀ q : Nat, s.heap.size ≤ q → sA a s.heap.size q := sA_new
  have hl := lv_entry ([.ref (a i), .int (nI 6)]) (n := 2) (Nat.le_of_ble_eq_true rfl)
  rw [lg_entry_eq]
  generalize (lg_sl ([.ref (a i), .int (nI 6)]) ++ List.replicate (2 - (lg_sl ([.ref (a i), .int (nI 6)])).length) Slot.unset).toArray = ls at hl ⊢
  have hl : lv_has ls 2 [(0, .ref (a i)), (1, .int (nI 6))] := hl
  refine lv_iload_n hx hb dX1_read_0 rfl (lv_at hl 1 rfl) ?_
  refine lv_tableIn (tgt := 86) hx hb dX1_read_1 (by decide) (by decide) (off := 85) (by decide +kernel) (by decide) ?_
  refine lv_aload_n hx hb dX1_read_86 rfl (lv_at hl 0 rfl) ?_
  refine sg_pf hx hb hts iX1_read_X1_6 hown hK hw hi 6 (f 6) rfl (by decide) (hts _ mX1_read_0_6) dX1_read_87 ?_
  exact se_i hx hb hr hlocks hw (by rfl) (by rfl) dX1_read_90
theorem mX1_read_0_7 : (Cond.fieldLink RX1 45 "SaltRow$Pond" "crustDirt" "I") ∈ wsX1_read := by decide +kernel
theorem iX1_read_X1_7 : ∀ w ∈ wsX10, w ∈ wsX1_read := by decide +kernel
set_option maxHeartbeats 4000000 in
set_option maxRecDepth 100000 in
theorem zX1_read_7 (l : Launch) (D : va_G) (a : Nat → Nat) (cs : Nat → ClassId) (σ : sS) (i : Nat) (hi : 5 ≤ i ∧ i < 21) (f : Nat → Int32)  : sMi l yX1_read wsX1_read ({ frames := 2, cells := 0, slots := 0, locals := 45 }) D a cs [.ref (a i), .int (nI 7)] (va_up σ i f) (f_X1_read f 7) (va_up σ i f) := by
  intro sz
  refine Met.ofW (cc := cX1_read) (maxL := 2) (ret := (some .int)) (by decide) rfl ?_
  intro p e s m args below meth c s₁ B hml hv
  obtain ⟨rfl, hsz, hv2⟩ := hv
  have hv3 : sB D a cs (va_up σ i f) sz s := ⟨hsz, hv2⟩
  subst hsz
  have hw := sH_start hv3
  obtain ⟨-, -, hK, -, hN⟩ := hv3
  have hx := B.exec
  have hb := B.bytes
  have hr := B.returns
  have hts := atoms_spec (ws := wsX1_read) B.pre
  have hown : s.vm.findClass RX1 = some m.cls := findClass_of_methodNamed B.named
  have hlocks := B.notSynchronized
  have hA : ∀ q : Nat, s.heap.size ≤ q → sA a s.heap.size q := sA_new
  have hl := lv_entry ([.ref (a i), .int (nI 7)]) (n := 2) (Nat.le_of_ble_eq_true rfl)
  rw [lg_entry_eq]
  generalize (lg_sl ([.ref (a i), .int (nI 7)]) ++ List.replicate (2 - (lg_sl ([.ref (a i), .int (nI 7)])).length) Slot.unset).toArray = ls at hl ⊢
  have hl : lv_has ls 2 [(0, .ref (a i)), (1, .int (nI 7))] := hl
  refine lv_iload_n hx hb dX1_read_0 rfl (lv_at hl 1 rfl) ?_
  refine lv_tableIn (tgt := 91) hx hb dX1_read_1 (by decide) (by decide) (off := 90) (by decide +kernel) (by decide) ?_
  refine lv_aload_n hx hb dX1_read_91 rfl (lv_at hl 0 rfl) ?_
  refine sg_pf hx hb hts iX1_read_X1_7 hown hK hw hi 7 (f 7) rfl (by decide) (hts _ mX1_read_0_7) dX1_read_92 ?_
  exact se_i hx hb hr hlocks hw (by rfl) (by rfl) dX1_read_95
set_option maxHeartbeats 4000000 in
set_option maxRecDepth 100000 in
theorem zX1_read_8 (l : Launch) (D : va_G) (a : Nat → Nat) (cs : Nat → ClassId) (σ : sS) (i : Nat) (hi : 5 ≤ i ∧ i < 21) (f : Nat → Int32)  : sMi l yX1_read wsX1_read ({ frames := 2, cells := 0, slots := 0, locals := 45 }) D a cs [.ref (a i), .int (nI 8)] (va_up σ i f) (f_X1_read f 8) (va_up σ i f) := by
  intro sz
  refine Met.ofW (cc := cX1_read) (maxL := 2) (ret := (some .int)) (by decide) rfl ?_
  intro p e s m args below meth c s₁ B hml hv
  obtain ⟨rfl, hsz, hv2⟩ := hv
  have hv3 : sB D a cs (va_up σ i f) sz s := ⟨hsz, hv2⟩
  subst hsz
  have hw := sH_start hv3
  obtain ⟨-, -, hK, -, hN⟩ := hv3
  have hx := B.exec
  have hb := B.bytes
  have hr := B.returns
  have hts := atoms_spec (ws := wsX1_read) B.pre
  have hown : s.vm.findClass RX1 = some m.cls := findClass_of_methodNamed B.named
  have hlocks := B.notSynchronized
  have hA : ∀ q : Nat, s.heap.size ≤ q → sA a s.heap.size q := sA_new
  have hl := lv_entry ([.ref (a i), .int (nI 8)]) (n := 2) (Nat.le_of_ble_eq_true rfl)
  rw [lg_entry_eq]
  generalize (lg_sl ([.ref (a i), .int (nI 8)]) ++ List.replicate (2 - (lg_sl ([.ref (a i), .int (nI 8)])).length) Slot.unset).toArray = ls at hl ⊢
  have hl : lv_has ls 2 [(0, .ref (a i)), (1, .int (nI 8))] := hl
  refine lv_iload_n hx hb dX1_read_0 rfl (lv_at hl 1 rfl) ?_
  refine lv_tableIn (tgt := 96) hx hb dX1_read_1 (by decide) (by decide) (off := 95) (by decide +kernel) (by decide) ?_
  refine lv_aload_n hx hb dX1_read_96 rfl (lv_at hl 0 rfl) ?_
  refine sc_i (sr_V (i := i) (As := []) (rest := []) ⟨hx, hb, hml, hown, hts⟩ (zX1_level l D a cs _ i hi _ _) (cwV 0 hts gX1_read_X1_level rfl rfl rfl (by decide +kernel) ⟨Nat.le_of_ble_eq_true rfl, Nat.le_of_ble_eq_true rfl⟩) hK hN hw (by omega) (sE_p hi) kcX1 rfl hl.1 (Nat.le_of_ble_eq_true rfl) dX1_read_97 ⟨Nat.le_of_ble_eq_true rfl, Nat.le_of_ble_eq_true rfl⟩) hw hA (fun H locs hw => ?_)
  exact se_i hx hb hr hlocks hw (by rfl) (by rfl) dX1_read_100
set_option maxHeartbeats 4000000 in
set_option maxRecDepth 100000 in
theorem zX1_read_9 (l : Launch) (D : va_G) (a : Nat → Nat) (cs : Nat → ClassId) (σ : sS) (i : Nat) (hi : 5 ≤ i ∧ i < 21) (f : Nat → Int32)  : sMi l yX1_read wsX1_read ({ frames := 2, cells := 0, slots := 0, locals := 45 }) D a cs [.ref (a i), .int (nI 9)] (va_up σ i f) (f_X1_read f 9) (va_up σ i f) := by
  intro sz
  refine Met.ofW (cc := cX1_read) (maxL := 2) (ret := (some .int)) (by decide) rfl ?_
  intro p e s m args below meth c s₁ B hml hv
  obtain ⟨rfl, hsz, hv2⟩ := hv
  have hv3 : sB D a cs (va_up σ i f) sz s := ⟨hsz, hv2⟩
  subst hsz
  have hw := sH_start hv3
  obtain ⟨-, -, hK, -, hN⟩ := hv3
  have hx := B.exec
  have hb := B.bytes
  have hr := B.returns
  have hts := atoms_spec (ws := wsX1_read) B.pre
  have hown : s.vm.findClass RX1 = some m.cls := findClass_of_methodNamed B.named
  have hlocks := B.notSynchronized
  have hA : ∀ q : Nat, s.heap.size ≤ q → sA a s.heap.size q := sA_new
  have hl := lv_entry ([.ref (a i), .int (nI 9)]) (n := 2) (Nat.le_of_ble_eq_true rfl)
  rw [lg_entry_eq]
  generalize (lg_sl ([.ref (a i), .int (nI 9)]) ++ List.replicate (2 - (lg_sl ([.ref (a i), .int (nI 9)])).length) Slot.unset).toArray = ls at hl ⊢
  have hl : lv_has ls 2 [(0, .ref (a i)), (1, .int (nI 9))] := hl
  refine lv_iload_n hx hb dX1_read_0 rfl (lv_at hl 1 rfl) ?_
  refine lv_tableIn (tgt := 101) hx hb dX1_read_1 (by decide) (by decide) (off := 100) (by decide +kernel) (by decide) ?_
  refine lv_aload_n hx hb dX1_read_101 rfl (lv_at hl 0 rfl) ?_
  refine sc_i (sr_V (i := i) (As := []) (rest := []) ⟨hx, hb, hml, hown, hts⟩ (zX1_strength l D a cs _ i hi _ _) (cwV 0 hts gX1_read_X1_strength rfl rfl rfl (by decide +kernel) ⟨Nat.le_of_ble_eq_true rfl, Nat.le_of_ble_eq_true rfl⟩) hK hN hw (by omega) (sE_p hi) kcX1 rfl hl.1 (Nat.le_of_ble_eq_true rfl) dX1_read_102 ⟨Nat.le_of_ble_eq_true rfl, Nat.le_of_ble_eq_true rfl⟩) hw hA (fun H locs hw => ?_)
  exact se_i hx hb hr hlocks hw (by rfl) (by rfl) dX1_read_105
theorem mX1_read_0_10 : (Cond.fieldLink RX1 55 "SaltRow$Pond" "wasHarvested" "Z") ∈ wsX1_read := by decide +kernel
theorem iX1_read_X1_10 : ∀ w ∈ wsX10, w ∈ wsX1_read := by decide +kernel
set_option maxHeartbeats 4000000 in
set_option maxRecDepth 100000 in
theorem zX1_read_10 (l : Launch) (D : va_G) (a : Nat → Nat) (cs : Nat → ClassId) (σ : sS) (i : Nat) (hi : 5 ≤ i ∧ i < 21) (f : Nat → Int32)  : sMi l yX1_read wsX1_read ({ frames := 2, cells := 0, slots := 0, locals := 45 }) D a cs [.ref (a i), .int (nI 10)] (va_up σ i f) (f_X1_read f 10) (va_up σ i f) := by
  intro sz
  refine Met.ofW (cc := cX1_read) (maxL := 2) (ret := (some .int)) (by decide) rfl ?_
  intro p e s m args below meth c s₁ B hml hv
  obtain ⟨rfl, hsz, hv2⟩ := hv
  have hv3 : sB D a cs (va_up σ i f) sz s := ⟨hsz, hv2⟩
  subst hsz
  have hw := sH_start hv3
  obtain ⟨-, -, hK, -, hN⟩ := hv3
  have hx := B.exec
  have hb := B.bytes
  have hr := B.returns
  have hts := atoms_spec (ws := wsX1_read) B.pre
  have hown : s.vm.findClass RX1 = some m.cls := findClass_of_methodNamed B.named
  have hlocks := B.notSynchronized
  have hA : ∀ q : Nat, s.heap.size ≤ q → sA a s.heap.size q := sA_new
  have hl := lv_entry ([.ref (a i), .int (nI 10)]) (n := 2) (Nat.le_of_ble_eq_true rfl)
  rw [lg_entry_eq]
  generalize (lg_sl ([.ref (a i), .int (nI 10)]) ++ List.replicate (2 - (lg_sl ([.ref (a i), .int (nI 10)])).length) Slot.unset).toArray = ls at hl ⊢
  have hl : lv_has ls 2 [(0, .ref (a i)), (1, .int (nI 10))] := hl
  refine lv_iload_n hx hb dX1_read_0 rfl (lv_at hl 1 rfl) ?_
  refine lv_tableOut (tgt := 106) hx hb dX1_read_1 (by decide) (by decide) ?_
  refine lv_aload_n hx hb dX1_read_106 rfl (lv_at hl 0 rfl) ?_
  refine sg_pf hx hb hts iX1_read_X1_10 hown hK hw hi 11 (f 11) rfl (by decide) (hts _ mX1_read_0_10) dX1_read_107 ?_
  refine lv_if_eq (tgt := 117) hx hb dX1_read_110 (by decide) (fun c1 => ?_) (fun c1 => ?_)
  · refine lv_iconst (v := 0) hx hb dX1_read_117 (by decide) ?_
    exact se_i hx hb hr hlocks hw (by show _ = f_X1_harv f; unfold f_X1_harv; rw [if_pos c1]) (by rfl) dX1_read_118
  · refine lv_iconst (v := 1) hx hb dX1_read_113 (by decide) ?_
    refine lv_goto (tgt := 118) hx hb dX1_read_114 (by decide) ?_
    exact se_i hx hb hr hlocks hw (by show _ = f_X1_harv f; unfold f_X1_harv; rw [if_neg c1]) (by rfl) dX1_read_118
theorem mX1_copyFrom_0 : (Cond.fieldLink RX1 9 "SaltRow$Pond" "area" "I") ∈ wsX1_copyFrom := by decide +kernel
theorem iX1_copyFrom_X1 : ∀ w ∈ wsX10, w ∈ wsX1_copyFrom := by decide +kernel
theorem mX1_copyFrom_2 : (Cond.fieldLink RX1 15 "SaltRow$Pond" "brine" "I") ∈ wsX1_copyFrom := by decide +kernel
theorem mX1_copyFrom_3 : (Cond.fieldLink RX1 22 "SaltRow$Pond" "salt" "I") ∈ wsX1_copyFrom := by decide +kernel
theorem mX1_copyFrom_4 : (Cond.fieldLink RX1 36 "SaltRow$Pond" "gypsum" "I") ∈ wsX1_copyFrom := by decide +kernel
theorem mX1_copyFrom_5 : (Cond.fieldLink RX1 25 "SaltRow$Pond" "bitter" "I") ∈ wsX1_copyFrom := by decide +kernel
theorem mX1_copyFrom_6 : (Cond.fieldLink RX1 39 "SaltRow$Pond" "fresh" "I") ∈ wsX1_copyFrom := by decide +kernel
theorem mX1_copyFrom_7 : (Cond.fieldLink RX1 42 "SaltRow$Pond" "crustSalt" "I") ∈ wsX1_copyFrom := by decide +kernel
theorem mX1_copyFrom_8 : (Cond.fieldLink RX1 45 "SaltRow$Pond" "crustDirt" "I") ∈ wsX1_copyFrom := by decide +kernel
theorem mX1_copyFrom_9 : (Cond.fieldLink RX1 59 "SaltRow$Pond" "saltFallen" "I") ∈ wsX1_copyFrom := by decide +kernel
theorem mX1_copyFrom_10 : (Cond.fieldLink RX1 62 "SaltRow$Pond" "isOpen" "Z") ∈ wsX1_copyFrom := by decide +kernel
theorem mX1_copyFrom_11 : (Cond.fieldLink RX1 65 "SaltRow$Pond" "isCovered" "Z") ∈ wsX1_copyFrom := by decide +kernel
theorem mX1_copyFrom_12 : (Cond.fieldLink RX1 55 "SaltRow$Pond" "wasHarvested" "Z") ∈ wsX1_copyFrom := by decide +kernel
set_option maxHeartbeats 4000000 in
set_option maxRecDepth 100000 in
theorem zX1_copyFrom (l : Launch) (D : va_G) (a : Nat → Nat) (cs : Nat → ClassId) (σ : sS) (i j : Nat) (hi : 5 ≤ i ∧ i < 21) (hj : 5 ≤ j ∧ j < 21) (hij : j ≠ i) (f : Nat → Int32) (hz : ∀ k, 9 ≤ k → k < 12 → σ j k = 0 ∨ σ j k = 1) : sMv l yX1_copyFrom wsX1_copyFrom ({ frames := 0, cells := 0, slots := 0, locals := 0 }) D a cs [.ref (a i), .ref (a j)] (va_up σ i f) (va_up σ i (σ j)) := by
  intro sz
  refine Met.ofW (cc := cX1_copyFrom) (maxL := 2) (ret := none) (by decide) rfl ?_
  intro p e s m args below meth c s₁ B hml hv
  obtain ⟨rfl, hsz, hv2⟩ := hv
  have hv3 : sB D a cs (va_up σ i f) sz s := ⟨hsz, hv2⟩
  subst hsz
  have hw := sH_start hv3
  obtain ⟨-, -, hK, -, hN⟩ := hv3
  have hx := B.exec
  have hb := B.bytes
  have hr := B.returns
  have hts := atoms_spec (ws := wsX1_copyFrom) B.pre
  have hown : s.vm.findClass RX1 = some m.cls := findClass_of_methodNamed B.named
  have hlocks := B.notSynchronized
  have hA : ∀ q : Nat, s.heap.size ≤ q → sA a s.heap.size q := sA_new
  have hl := lv_entry ([.ref (a i), .ref (a j)]) (n := 2) (Nat.le_of_ble_eq_true rfl)
  rw [lg_entry_eq]
  generalize (lg_sl ([.ref (a i), .ref (a j)]) ++ List.replicate (2 - (lg_sl ([.ref (a i), .ref (a j)])).length) Slot.unset).toArray = ls at hl ⊢
  have hl : lv_has ls 2 [(0, .ref (a i)), (1, .ref (a j))] := hl
  refine lv_aload_n hx hb dX1_copyFrom_0 rfl (lv_at hl 0 rfl) ?_
  refine lv_aload_n hx hb dX1_copyFrom_1 rfl (lv_at hl 1 rfl) ?_
  refine sg_pn hx hb hts iX1_copyFrom_X1 hown hK hw hj hij 0 (by decide) (hts _ mX1_copyFrom_0) dX1_copyFrom_2 ?_
  refine sp_pf hx hb hts iX1_copyFrom_X1 hown hK hw hi 0 (by decide) (hts _ mX1_copyFrom_0) dX1_copyFrom_5 (fun H locs hw => ?_)
  refine lv_aload_n hx hb dX1_copyFrom_8 rfl (lv_at hl 0 rfl) ?_
  refine lv_aload_n hx hb dX1_copyFrom_9 rfl (lv_at hl 1 rfl) ?_
  refine sg_pn hx hb hts iX1_copyFrom_X1 hown hK hw hj hij 1 (by decide) (hts _ mX1_copyFrom_2) dX1_copyFrom_10 ?_
  refine sp_pf hx hb hts iX1_copyFrom_X1 hown hK hw hi 1 (by decide) (hts _ mX1_copyFrom_2) dX1_copyFrom_13 (fun H locs hw => ?_)
  refine lv_aload_n hx hb dX1_copyFrom_16 rfl (lv_at hl 0 rfl) ?_
  refine lv_aload_n hx hb dX1_copyFrom_17 rfl (lv_at hl 1 rfl) ?_
  refine sg_pn hx hb hts iX1_copyFrom_X1 hown hK hw hj hij 2 (by decide) (hts _ mX1_copyFrom_3) dX1_copyFrom_18 ?_
  refine sp_pf hx hb hts iX1_copyFrom_X1 hown hK hw hi 2 (by decide) (hts _ mX1_copyFrom_3) dX1_copyFrom_21 (fun H locs hw => ?_)
  refine lv_aload_n hx hb dX1_copyFrom_24 rfl (lv_at hl 0 rfl) ?_
  refine lv_aload_n hx hb dX1_copyFrom_25 rfl (lv_at hl 1 rfl) ?_
  refine sg_pn hx hb hts iX1_copyFrom_X1 hown hK hw hj hij 3 (by decide) (hts _ mX1_copyFrom_4) dX1_copyFrom_26 ?_
  refine sp_pf hx hb hts iX1_copyFrom_X1 hown hK hw hi 3 (by decide) (hts _ mX1_copyFrom_4) dX1_copyFrom_29 (fun H locs hw => ?_)
  refine lv_aload_n hx hb dX1_copyFrom_32 rfl (lv_at hl 0 rfl) ?_
  refine lv_aload_n hx hb dX1_copyFrom_33 rfl (lv_at hl 1 rfl) ?_
  refine sg_pn hx hb hts iX1_copyFrom_X1 hown hK hw hj hij 4 (by decide) (hts _ mX1_copyFrom_5) dX1_copyFrom_34 ?_
  refine sp_pf hx hb hts iX1_copyFrom_X1 hown hK hw hi 4 (by decide) (hts _ mX1_copyFrom_5) dX1_copyFrom_37 (fun H locs hw => ?_)
  refine lv_aload_n hx hb dX1_copyFrom_40 rfl (lv_at hl 0 rfl) ?_
  refine lv_aload_n hx hb dX1_copyFrom_41 rfl (lv_at hl 1 rfl) ?_
  refine sg_pn hx hb hts iX1_copyFrom_X1 hown hK hw hj hij 5 (by decide) (hts _ mX1_copyFrom_6) dX1_copyFrom_42 ?_
  refine sp_pf hx hb hts iX1_copyFrom_X1 hown hK hw hi 5 (by decide) (hts _ mX1_copyFrom_6) dX1_copyFrom_45 (fun H locs hw => ?_)
  refine lv_aload_n hx hb dX1_copyFrom_48 rfl (lv_at hl 0 rfl) ?_
  refine lv_aload_n hx hb dX1_copyFrom_49 rfl (lv_at hl 1 rfl) ?_
  refine sg_pn hx hb hts iX1_copyFrom_X1 hown hK hw hj hij 6 (by decide) (hts _ mX1_copyFrom_7) dX1_copyFrom_50 ?_
  refine sp_pf hx hb hts iX1_copyFrom_X1 hown hK hw hi 6 (by decide) (hts _ mX1_copyFrom_7) dX1_copyFrom_53 (fun H locs hw => ?_)
  refine lv_aload_n hx hb dX1_copyFrom_56 rfl (lv_at hl 0 rfl) ?_
  refine lv_aload_n hx hb dX1_copyFrom_57 rfl (lv_at hl 1 rfl) ?_
  refine sg_pn hx hb hts iX1_copyFrom_X1 hown hK hw hj hij 7 (by decide) (hts _ mX1_copyFrom_8) dX1_copyFrom_58 ?_
  refine sp_pf hx hb hts iX1_copyFrom_X1 hown hK hw hi 7 (by decide) (hts _ mX1_copyFrom_8) dX1_copyFrom_61 (fun H locs hw => ?_)
  refine lv_aload_n hx hb dX1_copyFrom_64 rfl (lv_at hl 0 rfl) ?_
  refine lv_aload_n hx hb dX1_copyFrom_65 rfl (lv_at hl 1 rfl) ?_
  refine sg_pn hx hb hts iX1_copyFrom_X1 hown hK hw hj hij 8 (by decide) (hts _ mX1_copyFrom_9) dX1_copyFrom_66 ?_
  refine sp_pf hx hb hts iX1_copyFrom_X1 hown hK hw hi 8 (by decide) (hts _ mX1_copyFrom_9) dX1_copyFrom_69 (fun H locs hw => ?_)
  refine lv_aload_n hx hb dX1_copyFrom_72 rfl (lv_at hl 0 rfl) ?_
  refine lv_aload_n hx hb dX1_copyFrom_73 rfl (lv_at hl 1 rfl) ?_
  refine sg_pn hx hb hts iX1_copyFrom_X1 hown hK hw hj hij 9 (by decide) (hts _ mX1_copyFrom_10) dX1_copyFrom_74 ?_
  refine sp_zf hx hb hts iX1_copyFrom_X1 hown hK hw hi 9 (hz 9 (by decide) (by decide)) (by decide) (hts _ mX1_copyFrom_10) dX1_copyFrom_77 (fun H locs hw => ?_)
  refine lv_aload_n hx hb dX1_copyFrom_80 rfl (lv_at hl 0 rfl) ?_
  refine lv_aload_n hx hb dX1_copyFrom_81 rfl (lv_at hl 1 rfl) ?_
  refine sg_pn hx hb hts iX1_copyFrom_X1 hown hK hw hj hij 10 (by decide) (hts _ mX1_copyFrom_11) dX1_copyFrom_82 ?_
  refine sp_zf hx hb hts iX1_copyFrom_X1 hown hK hw hi 10 (hz 10 (by decide) (by decide)) (by decide) (hts _ mX1_copyFrom_11) dX1_copyFrom_85 (fun H locs hw => ?_)
  refine lv_aload_n hx hb dX1_copyFrom_88 rfl (lv_at hl 0 rfl) ?_
  refine lv_aload_n hx hb dX1_copyFrom_89 rfl (lv_at hl 1 rfl) ?_
  refine sg_pn hx hb hts iX1_copyFrom_X1 hown hK hw hj hij 11 (by decide) (hts _ mX1_copyFrom_12) dX1_copyFrom_90 ?_
  refine sp_zf hx hb hts iX1_copyFrom_X1 hown hK hw hi 11 (hz 11 (by decide) (by decide)) (by decide) (hts _ mX1_copyFrom_12) dX1_copyFrom_93 (fun H locs hw => ?_)
  exact se_vw hx hb hr hlocks hw (sW_pond hi (by rfl)) dX1_copyFrom_96
theorem mX1_giveBrine_0 : (Cond.fieldLink RX1 22 "SaltRow$Pond" "salt" "I") ∈ wsX1_giveBrine := by decide +kernel
theorem iX1_giveBrine_X1 : ∀ w ∈ wsX10, w ∈ wsX1_giveBrine := by decide +kernel
theorem mX1_giveBrine_2 : (Cond.fieldLink RX1 15 "SaltRow$Pond" "brine" "I") ∈ wsX1_giveBrine := by decide +kernel
theorem mX1_giveBrine_3 : (Cond.initialized RX3) ∈ wsX1_giveBrine := by decide +kernel
theorem mX1_giveBrine_4 : (Cond.static yX3_portion) ∈ wsX1_giveBrine := by decide +kernel
theorem mX1_giveBrine_5 : (Cond.fieldLink RX1 36 "SaltRow$Pond" "gypsum" "I") ∈ wsX1_giveBrine := by decide +kernel
theorem mX1_giveBrine_6 : (Cond.fieldLink RX1 25 "SaltRow$Pond" "bitter" "I") ∈ wsX1_giveBrine := by decide +kernel
set_option maxHeartbeats 4000000 in
set_option maxRecDepth 100000 in
theorem zX1_giveBrine (l : Launch) (D : va_G) (a : Nat → Nat) (cs : Nat → ClassId) (σ : sS) (i j : Nat) (hi : 5 ≤ i ∧ i < 21) (hj : 5 ≤ j ∧ j < 21) (hij : i ≠ j) (x : Int32) : sMv l yX1_giveBrine wsX1_giveBrine ({ frames := 1, cells := 0, slots := 0, locals := 25 }) D a cs [.ref (a i), .ref (a j), .int x] σ (f_X1_giveBrine σ i j x) := by
  intro sz
  refine Met.ofW (cc := cX1_giveBrine) (maxL := 6) (ret := none) (by decide) rfl ?_
  intro p e s m args below meth c s₁ B hml hv
  obtain ⟨rfl, hsz, hv2⟩ := hv
  have hv3 : sB D a cs σ sz s := ⟨hsz, hv2⟩
  subst hsz
  have hw := sH_start hv3
  obtain ⟨-, -, hK, -, hN⟩ := hv3
  have hx := B.exec
  have hb := B.bytes
  have hr := B.returns
  have hts := atoms_spec (ws := wsX1_giveBrine) B.pre
  have hown : s.vm.findClass RX1 = some m.cls := findClass_of_methodNamed B.named
  have hlocks := B.notSynchronized
  have hA : ∀ q : Nat, s.heap.size ≤ q → sA a s.heap.size q := sA_new
  have hl := lv_entry ([.ref (a i), .ref (a j), .int x]) (n := 6) (Nat.le_of_ble_eq_true rfl)
  rw [lg_entry_eq]
  generalize (lg_sl ([.ref (a i), .ref (a j), .int x]) ++ List.replicate (6 - (lg_sl ([.ref (a i), .ref (a j), .int x])).length) Slot.unset).toArray = ls at hl ⊢
  have hl : lv_has ls 6 [(0, .ref (a i)), (1, .ref (a j)), (2, .int x)] := hl
  refine lv_aload_n hx hb dX1_giveBrine_0 rfl (lv_at hl 0 rfl) ?_
  refine sg_p hx hb hts iX1_giveBrine_X1 hown hK hw hi 2 (by decide) (hts _ mX1_giveBrine_0) dX1_giveBrine_1 ?_
  refine lv_i2l hx hb dX1_giveBrine_4 rfl ?_
  refine lv_iload_n hx hb dX1_giveBrine_5 rfl (lv_at hl 2 rfl) ?_
  refine lv_i2l hx hb dX1_giveBrine_6 rfl ?_
  refine lv_aload_n hx hb dX1_giveBrine_7 rfl (lv_at hl 0 rfl) ?_
  refine sg_p hx hb hts iX1_giveBrine_X1 hown hK hw hi 1 (by decide) (hts _ mX1_giveBrine_2) dX1_giveBrine_8 ?_
  refine lv_i2l hx hb dX1_giveBrine_11 rfl ?_
  refine sc_i (sr_N (As := [.long ((σ i 2).toInt64), .long x.toInt64, .long ((σ i 1).toInt64)]) (rest := []) ⟨hx, hb, hml, hown, hts⟩ (zX3_portion l D a cs _ ((σ i 2).toInt64) x.toInt64 ((σ i 1).toInt64) _) (va_cnB 3 hts gX1_giveBrine_X3_portion_n18 rfl rfl rfl (sN_X1_X3_portion hN) (hts _ mX1_giveBrine_3) (by decide +kernel) ⟨Nat.le_of_ble_eq_true rfl, Nat.le_of_ble_eq_true rfl⟩) (hts _ mX1_giveBrine_4) hK hN hw rfl hl.1 (Nat.le_of_ble_eq_true rfl) dX1_giveBrine_12 ⟨Nat.le_of_ble_eq_true rfl, Nat.le_of_ble_eq_true rfl⟩) hw hA (fun H locs hw => ?_)
  refine lw_topi (fun x1 ex1 => ?_)
  refine lv_istore_n (lv' := [(3, .int x1), (0, .ref (a i)), (1, .ref (a j)), (2, .int x)]) hx hb dX1_giveBrine_15 rfl hl (by decide) rfl (fun ls hl => ?_)
  refine lv_aload_n hx hb dX1_giveBrine_16 rfl (lv_at hl 1 rfl) ?_
  refine sg_p hx hb hts iX1_giveBrine_X1 hown hK hw hi 3 (by decide) (hts _ mX1_giveBrine_5) dX1_giveBrine_17 ?_
  refine lv_i2l hx hb dX1_giveBrine_20 rfl ?_
  refine lv_iload_n hx hb dX1_giveBrine_21 rfl (lv_at hl 3 rfl) ?_
  refine lv_i2l hx hb dX1_giveBrine_22 rfl ?_
  refine lv_aload_n hx hb dX1_giveBrine_23 rfl (lv_at hl 1 rfl) ?_
  refine sg_p hx hb hts iX1_giveBrine_X1 hown hK hw hi 1 (by decide) (hts _ mX1_giveBrine_2) dX1_giveBrine_24 ?_
  refine lv_i2l hx hb dX1_giveBrine_27 rfl ?_
  refine sc_i (sr_N (As := [.long ((σ i 3).toInt64), .long x.toInt64, .long ((σ i 1).toInt64)]) (rest := []) ⟨hx, hb, hml, hown, hts⟩ (zX3_portion l D a cs _ ((σ i 3).toInt64) x.toInt64 ((σ i 1).toInt64) _) (va_cnB 3 hts gX1_giveBrine_X3_portion_n18 rfl rfl rfl (sN_X1_X3_portion hN) (hts _ mX1_giveBrine_3) (by decide +kernel) ⟨Nat.le_of_ble_eq_true rfl, Nat.le_of_ble_eq_true rfl⟩) (hts _ mX1_giveBrine_4) hK hN hw rfl hl.1 (Nat.le_of_ble_eq_true rfl) dX1_giveBrine_28 ⟨Nat.le_of_ble_eq_true rfl, Nat.le_of_ble_eq_true rfl⟩) hw hA (fun H locs hw => ?_)
  refine lw_topi (fun x2 ex2 => ?_)
  refine lv_istore (lv' := [(4, .int x2), (3, .int x1), (0, .ref (a i)), (1, .ref (a j)), (2, .int x)]) hx hb dX1_giveBrine_31 hl (by decide) rfl (fun ls hl => ?_)
  refine lv_aload_n hx hb dX1_giveBrine_33 rfl (lv_at hl 2 rfl) ?_
  refine sg_p hx hb hts iX1_giveBrine_X1 hown hK hw hi 4 (by decide) (hts _ mX1_giveBrine_6) dX1_giveBrine_34 ?_
  refine lv_i2l hx hb dX1_giveBrine_37 rfl ?_
  refine lv_iload_n hx hb dX1_giveBrine_38 rfl (lv_at hl 4 rfl) ?_
  refine lv_i2l hx hb dX1_giveBrine_39 rfl ?_
  refine lv_aload_n hx hb dX1_giveBrine_40 rfl (lv_at hl 2 rfl) ?_
  refine sg_p hx hb hts iX1_giveBrine_X1 hown hK hw hi 1 (by decide) (hts _ mX1_giveBrine_2) dX1_giveBrine_41 ?_
  refine lv_i2l hx hb dX1_giveBrine_44 rfl ?_
  refine sc_i (sr_N (As := [.long ((σ i 4).toInt64), .long x.toInt64, .long ((σ i 1).toInt64)]) (rest := []) ⟨hx, hb, hml, hown, hts⟩ (zX3_portion l D a cs _ ((σ i 4).toInt64) x.toInt64 ((σ i 1).toInt64) _) (va_cnB 3 hts gX1_giveBrine_X3_portion_n18 rfl rfl rfl (sN_X1_X3_portion hN) (hts _ mX1_giveBrine_3) (by decide +kernel) ⟨Nat.le_of_ble_eq_true rfl, Nat.le_of_ble_eq_true rfl⟩) (hts _ mX1_giveBrine_4) hK hN hw rfl hl.1 (Nat.le_of_ble_eq_true rfl) dX1_giveBrine_45 ⟨Nat.le_of_ble_eq_true rfl, Nat.le_of_ble_eq_true rfl⟩) hw hA (fun H locs hw => ?_)
  refine lw_topi (fun x3 ex3 => ?_)
  refine lv_istore (lv' := [(5, .int x3), (4, .int x2), (3, .int x1), (0, .ref (a i)), (1, .ref (a j)), (2, .int x)]) hx hb dX1_giveBrine_48 hl (by decide) rfl (fun ls hl => ?_)
  refine lv_aload_n hx hb dX1_giveBrine_50 rfl (lv_at hl 3 rfl) ?_
  refine lv_iload_n hx hb dX1_giveBrine_51 rfl (lv_at hl 5 rfl) ?_
  refine lv_ineg hx hb dX1_giveBrine_52 ?_
  refine lv_iload_n hx hb dX1_giveBrine_53 rfl (lv_at hl 2 rfl) ?_
  refine lv_ineg hx hb dX1_giveBrine_54 ?_
  refine lv_iload hx hb dX1_giveBrine_55 (lv_at hl 1 rfl) ?_
  refine lv_ineg hx hb dX1_giveBrine_57 ?_
  refine lv_iload hx hb dX1_giveBrine_58 (lv_at hl 0 rfl) ?_
  refine lv_ineg hx hb dX1_giveBrine_60 ?_
  have hw := sH_foc (i := i) hw
  refine sc_v (sr_V (i := i) (As := [.int (-x), .int (-x1), .int (-x2), .int (-x3)]) (rest := []) ⟨hx, hb, hml, hown, hts⟩ (zX1_takeIn l D a cs _ i hi _ (-x) (-x1) (-x2) (-x3) _) (cwV 4 hts gX1_giveBrine_X1_takeIn rfl rfl rfl (by decide +kernel) ⟨Nat.le_of_ble_eq_true rfl, Nat.le_of_ble_eq_true rfl⟩) hK hN hw (by omega) (sE_p hi) kcX1 rfl hl.1 (Nat.le_of_ble_eq_true rfl) dX1_giveBrine_61 ⟨Nat.le_of_ble_eq_true rfl, Nat.le_of_ble_eq_true rfl⟩) hw hA (fun H locs hw => ?_)
  obtain ⟨τ4, eτ4⟩ : ∃ zz : sS, va_up σ i (f_X1_takeIn (σ i) (-x) (-x1) (-x2) (-x3)) = zz := ⟨_, rfl⟩
  rw [eτ4] at hw
  refine lv_aload_n hx hb dX1_giveBrine_64 rfl (lv_at hl 4 rfl) ?_
  refine lv_iload_n hx hb dX1_giveBrine_65 rfl (lv_at hl 5 rfl) ?_
  refine lv_iload_n hx hb dX1_giveBrine_66 rfl (lv_at hl 2 rfl) ?_
  refine lv_iload hx hb dX1_giveBrine_67 (lv_at hl 1 rfl) ?_
  refine lv_iload hx hb dX1_giveBrine_69 (lv_at hl 0 rfl) ?_
  have hw := sH_foc (i := j) hw
  refine sc_v (sr_V (i := j) (As := [.int x, .int x1, .int x2, .int x3]) (rest := []) ⟨hx, hb, hml, hown, hts⟩ (zX1_takeIn l D a cs _ j hj _ x x1 x2 x3 _) (cwV 4 hts gX1_giveBrine_X1_takeIn rfl rfl rfl (by decide +kernel) ⟨Nat.le_of_ble_eq_true rfl, Nat.le_of_ble_eq_true rfl⟩) hK hN hw (by omega) (sE_p hj) kcX1 rfl hl.1 (Nat.le_of_ble_eq_true rfl) dX1_giveBrine_71 ⟨Nat.le_of_ble_eq_true rfl, Nat.le_of_ble_eq_true rfl⟩) hw hA (fun H locs hw => ?_)
  obtain ⟨τ5, eτ5⟩ : ∃ zz : sS, va_up τ4 j (f_X1_takeIn (τ4 j) x x1 x2 x3) = zz := ⟨_, rfl⟩
  rw [eτ5] at hw
  exact se_v hx hb hr hlocks hw (by subst eτ5 eτ4 ex3 ex2 ex1; exact rfl) dX1_giveBrine_74
theorem mX2_letSeaIn_0 : (Cond.fieldLink RX2 11 "SaltRow$Row" "ponds" "[LSaltRow$Pond;") ∈ wsX2_letSeaIn := by decide +kernel
theorem iX2_letSeaIn_X2 : ∀ w ∈ wsX20, w ∈ wsX2_letSeaIn := by decide +kernel
theorem mX2_letSeaIn_2 : (Cond.fieldLink RX2 18 "SaltRow$Row" "day" "I") ∈ wsX2_letSeaIn := by decide +kernel
theorem mX2_letSeaIn_3 : (Cond.initialized RX3) ∈ wsX2_letSeaIn := by decide +kernel
theorem mX2_letSeaIn_4 : (Cond.static yX3_tideAt) ∈ wsX2_letSeaIn := by decide +kernel
theorem mX2_letSeaIn_5 : (Cond.fieldLink RX2 66 "SaltRow$Pond" "isOpen" "Z") ∈ wsX2_letSeaIn := by decide +kernel
theorem iX2_letSeaIn_X1 : ∀ w ∈ wsX10, w ∈ wsX2_letSeaIn := by decide +kernel
theorem mX2_letSeaIn_7 : (Cond.fieldLink RX2 69 "SaltRow$Pond" "area" "I") ∈ wsX2_letSeaIn := by decide +kernel
theorem mX2_letSeaIn_8 : (Cond.fieldLink RX2 28 "SaltRow$Row" "seaSalt" "I") ∈ wsX2_letSeaIn := by decide +kernel
set_option maxHeartbeats 4000000 in
set_option maxRecDepth 100000 in
theorem zX2_letSeaIn (l : Launch) (D : va_G) (a : Nat → Nat) (cs : Nat → ClassId) (σ : sS) (r : Nat) (hr2 : r < 2)  : sMv l yX2_letSeaIn wsX2_letSeaIn ({ frames := 2, cells := 0, slots := 0, locals := 45 }) D a cs [.ref (a (1 + r))] σ (f_X2_letSeaIn σ r) := by
  intro sz
  refine Met.ofW (cc := cX2_letSeaIn) (maxL := 4) (ret := none) (by decide) rfl ?_
  intro p e s m args below meth c s₁ B hml hv
  obtain ⟨rfl, hsz, hv2⟩ := hv
  have hv3 : sB D a cs σ sz s := ⟨hsz, hv2⟩
  subst hsz
  have hw := sH_start hv3
  obtain ⟨-, -, hK, -, hN⟩ := hv3
  have hx := B.exec
  have hb := B.bytes
  have hr := B.returns
  have hts := atoms_spec (ws := wsX2_letSeaIn) B.pre
  have hown : s.vm.findClass RX2 = some m.cls := findClass_of_methodNamed B.named
  have hlocks := B.notSynchronized
  have hA : ∀ q : Nat, s.heap.size ≤ q → sA a s.heap.size q := sA_new
  have hl := lv_entry ([.ref (a (1 + r))]) (n := 4) (Nat.le_of_ble_eq_true rfl)
  rw [lg_entry_eq]
  generalize (lg_sl ([.ref (a (1 + r))]) ++ List.replicate (4 - (lg_sl ([.ref (a (1 + r))])).length) Slot.unset).toArray = ls at hl ⊢
  have hl : lv_has ls 4 [(0, .ref (a (1 + r)))] := hl
  refine lv_aload_n hx hb dX2_letSeaIn_0 rfl (lv_at hl 0 rfl) ?_
  refine sg_rq (r := r) hx hb hts iX2_letSeaIn_X2 hown hK hw hr2 (hts _ mX2_letSeaIn_0) dX2_letSeaIn_1 ?_
  refine lv_iconst (v := 0) hx hb dX2_letSeaIn_4 (by decide) ?_
  refine sg_q (r := r) (k := 0) hx hb hK hw hr2 (by decide) rfl dX2_letSeaIn_5 ?_
  refine lv_astore_n (lv' := [(1, .ref (a (5 + 8 * r + 0))), (0, .ref (a (1 + r)))]) hx hb dX2_letSeaIn_6 rfl hl (by decide) rfl (fun ls hl => ?_)
  refine lv_bipush (v := 10) hx hb dX2_letSeaIn_7 (by decide) ?_
  refine lv_aload_n hx hb dX2_letSeaIn_9 rfl (lv_at hl 1 rfl) ?_
  refine sg_r (r := r) hx hb hts iX2_letSeaIn_X2 hown hK hw hr2 1 (by decide) (hts _ mX2_letSeaIn_2) dX2_letSeaIn_10 ?_
  refine sc_i (sr_N (As := [.int (σ (1 + r) 1)]) (rest := [.int 10]) ⟨hx, hb, hml, hown, hts⟩ (zX3_tideAt l D a cs _ (σ (1 + r) 1) _) (va_cnB 1 hts gX2_letSeaIn_X3_tideAt_n58 rfl rfl rfl (sN_X2_X3_tideAt hN) (hts _ mX2_letSeaIn_3) (by decide +kernel) ⟨Nat.le_of_ble_eq_true rfl, Nat.le_of_ble_eq_true rfl⟩) (hts _ mX2_letSeaIn_4) hK hN hw rfl hl.1 (Nat.le_of_ble_eq_true rfl) dX2_letSeaIn_13 ⟨Nat.le_of_ble_eq_true rfl, Nat.le_of_ble_eq_true rfl⟩) hw hA (fun H locs hw => ?_)
  refine lv_imul hx hb dX2_letSeaIn_16 ?_
  refine lv_aload_n hx hb dX2_letSeaIn_17 rfl (lv_at hl 0 rfl) ?_
  have hw := sH_foc (i := 5 + 8 * r + 0) hw
  refine sc_i (sr_V (i := 5 + 8 * r + 0) (As := []) (rest := [.int (10 * (f_X3_tideAt (σ (1 + r) 1)))]) ⟨hx, hb, hml, hown, hts⟩ (zX1_level l D a cs _ (5 + 8 * r + 0) (by omega) _ _) (cwV 0 hts gX2_letSeaIn_X1_level rfl rfl rfl (by decide +kernel) ⟨Nat.le_of_ble_eq_true rfl, Nat.le_of_ble_eq_true rfl⟩) hK hN hw (by omega) (sE_p (by omega)) kcX1 rfl hl.1 (Nat.le_of_ble_eq_true rfl) dX2_letSeaIn_18 ⟨Nat.le_of_ble_eq_true rfl, Nat.le_of_ble_eq_true rfl⟩) hw hA (fun H locs hw => ?_)
  have hw := sH_unf hw
  refine lv_isub hx hb dX2_letSeaIn_21 ?_
  refine lw_topi (fun x1 ex1 => ?_)
  refine lv_istore_n (lv' := [(2, .int x1), (1, .ref (a (5 + 8 * r + 0))), (0, .ref (a (1 + r)))]) hx hb dX2_letSeaIn_22 rfl hl (by decide) rfl (fun ls hl => ?_)
  refine lv_aload_n hx hb dX2_letSeaIn_23 rfl (lv_at hl 1 rfl) ?_
  refine sg_p hx hb hts iX2_letSeaIn_X1 hown hK hw (by omega) 9 (by decide) (hts _ mX2_letSeaIn_5) dX2_letSeaIn_24 ?_
  refine lv_if_eq (tgt := 72) hx hb dX2_letSeaIn_27 (by decide) (fun c2 => ?_) (fun c2 => ?_)
  · exact se_v hx hb hr hlocks hw (by subst ex1; unfold f_X2_letSeaIn; rw [if_pos c2] <;> rfl) dX2_letSeaIn_72
  · refine lv_iload_n hx hb dX2_letSeaIn_30 rfl (lv_at hl 0 rfl) ?_
    refine lv_if_le (tgt := 72) hx hb dX2_letSeaIn_31 (by decide) (fun c3 => ?_) (fun c3 => ?_)
    · exact se_v hx hb hr hlocks hw (by subst ex1; unfold f_X2_letSeaIn; rw [if_neg c2, if_pos c3] <;> rfl) dX2_letSeaIn_72
    · refine lv_iload_n hx hb dX2_letSeaIn_34 rfl (lv_at hl 0 rfl) ?_
      refine lv_aload_n hx hb dX2_letSeaIn_35 rfl (lv_at hl 1 rfl) ?_
      refine sg_p hx hb hts iX2_letSeaIn_X1 hown hK hw (by omega) 0 (by decide) (hts _ mX2_letSeaIn_7) dX2_letSeaIn_36 ?_
      refine lv_imul hx hb dX2_letSeaIn_39 ?_
      refine lv_iconst (v := 4) hx hb dX2_letSeaIn_40 (by decide) ?_
      refine lv_idiv hx hb dX2_letSeaIn_41 (by decide) ?_
      refine lw_topi (fun x4 ex4 => ?_)
      refine lv_istore_n (lv' := [(3, .int x4), (2, .int x1), (1, .ref (a (5 + 8 * r + 0))), (0, .ref (a (1 + r)))]) hx hb dX2_letSeaIn_42 rfl hl (by decide) rfl (fun ls hl => ?_)
      refine lv_aload_n hx hb dX2_letSeaIn_43 rfl (lv_at hl 2 rfl) ?_
      refine lv_iload_n hx hb dX2_letSeaIn_44 rfl (lv_at hl 0 rfl) ?_
      refine lv_bipush (v := 30) hx hb dX2_letSeaIn_45 (by decide) ?_
      refine lv_iload_n hx hb dX2_letSeaIn_47 rfl (lv_at hl 0 rfl) ?_
      refine lv_imul hx hb dX2_letSeaIn_48 ?_
      refine lv_iconst (v := 2) hx hb dX2_letSeaIn_49 (by decide) ?_
      refine lv_iload_n hx hb dX2_letSeaIn_50 rfl (lv_at hl 0 rfl) ?_
      refine lv_imul hx hb dX2_letSeaIn_51 ?_
      refine lv_bipush (v := 6) hx hb dX2_letSeaIn_52 (by decide) ?_
      refine lv_iload_n hx hb dX2_letSeaIn_54 rfl (lv_at hl 0 rfl) ?_
      refine lv_imul hx hb dX2_letSeaIn_55 ?_
      have hw := sH_foc (i := 5 + 8 * r + 0) hw
      refine sc_v (sr_V (i := 5 + 8 * r + 0) (As := [.int x4, .int (30 * x4), .int (2 * x4), .int (6 * x4)]) (rest := []) ⟨hx, hb, hml, hown, hts⟩ (zX1_takeIn l D a cs _ (5 + 8 * r + 0) (by omega) _ x4 (30 * x4) (2 * x4) (6 * x4) _) (cwV 4 hts gX2_letSeaIn_X1_takeIn rfl rfl rfl (by decide +kernel) ⟨Nat.le_of_ble_eq_true rfl, Nat.le_of_ble_eq_true rfl⟩) hK hN hw (by omega) (sE_p (by omega)) kcX1 rfl hl.1 (Nat.le_of_ble_eq_true rfl) dX2_letSeaIn_56 ⟨Nat.le_of_ble_eq_true rfl, Nat.le_of_ble_eq_true rfl⟩) hw hA (fun H locs hw => ?_)
      obtain ⟨τ5, eτ5⟩ : ∃ zz : sS, va_up σ (5 + 8 * r + 0) (f_X1_takeIn (σ (5 + 8 * r + 0)) x4 (30 * x4) (2 * x4) (6 * x4)) = zz := ⟨_, rfl⟩
      rw [eτ5] at hw
      refine lv_aload_n hx hb dX2_letSeaIn_59 rfl (lv_at hl 3 rfl) ?_
      refine lv_dup hx hb dX2_letSeaIn_60 rfl ?_
      refine sg_r (r := r) hx hb hts iX2_letSeaIn_X2 hown hK hw hr2 4 (by decide) (hts _ mX2_letSeaIn_8) dX2_letSeaIn_61 ?_
      refine lv_bipush (v := 30) hx hb dX2_letSeaIn_64 (by decide) ?_
      refine lv_iload_n hx hb dX2_letSeaIn_66 rfl (lv_at hl 0 rfl) ?_
      refine lv_imul hx hb dX2_letSeaIn_67 ?_
      refine lv_iadd hx hb dX2_letSeaIn_68 ?_
      refine lw_topi (fun x6 ex6 => ?_)
      refine sp_r (r := r) hx hb hts iX2_letSeaIn_X2 hown hK hw hr2 4 (by decide) (hts _ mX2_letSeaIn_8) dX2_letSeaIn_69 (fun H locs hw => ?_)
      obtain ⟨τ7, eτ7⟩ : ∃ zz : sS, va_up τ5 (1 + r) (upd (τ5 (1 + r)) 4 x6) = zz := ⟨_, rfl⟩
      rw [eτ7] at hw
      exact se_v hx hb hr hlocks hw (by subst eτ7 ex6 eτ5 ex4 ex1; unfold f_X2_letSeaIn; rw [if_neg c2, if_neg c3] <;> rfl) dX2_letSeaIn_72
end
section
theorem mX2_letBrineFlowOn_0 : (Cond.fieldLink RX2 11 "SaltRow$Row" "ponds" "[LSaltRow$Pond;") ∈ wsX2_letBrineFlowOn := by decide +kernel
theorem iX2_letBrineFlowOn_X2 : ∀ w ∈ wsX20, w ∈ wsX2_letBrineFlowOn := by decide +kernel
theorem mX2_letBrineFlowOn_2 : (Cond.fieldLink RX2 66 "SaltRow$Pond" "isOpen" "Z") ∈ wsX2_letBrineFlowOn := by decide +kernel
theorem iX2_letBrineFlowOn_X1 : ∀ w ∈ wsX10, w ∈ wsX2_letBrineFlowOn := by decide +kernel
theorem mX2_letBrineFlowOn_4 : (Cond.fieldLink RX2 69 "SaltRow$Pond" "area" "I") ∈ wsX2_letBrineFlowOn := by decide +kernel
theorem mX2_letBrineFlowOn_5 : (Cond.methodLink RX2 76 Lib.Math.min.name) ∈ wsX2_letBrineFlowOn := by decide +kernel
theorem mX2_letBrineFlowOn_6 : (Cond.static Lib.Math.min.name) ∈ wsX2_letBrineFlowOn := by decide +kernel
theorem mX2_letBrineFlowOn_7 : (Cond.initialized "java/lang/Math") ∈ wsX2_letBrineFlowOn := by decide +kernel
theorem mX2_letBrineFlowOn_8 : (Cond.code Lib.Math.min.name Lib.Math.min.code 2 (some .int)) ∈ wsX2_letBrineFlowOn := by decide +kernel
theorem mX2_letBrineFlowOn_9 : (Cond.constantLong RX2 82 (2)) ∈ wsX2_letBrineFlowOn := by decide +kernel
theorem mX2_letBrineFlowOn_10 : (Cond.initialized RX3) ∈ wsX2_letBrineFlowOn := by decide +kernel
theorem mX2_letBrineFlowOn_11 : (Cond.static yX3_portion) ∈ wsX2_letBrineFlowOn := by decide +kernel
set_option maxHeartbeats 4000000 in
set_option maxRecDepth 100000 in
theorem zX2_letBrineFlowOn (l : Launch) (D : va_G) (a : Nat → Nat) (cs : Nat → ClassId) (σ : sS) (r : Nat) (hr2 : r < 2)  : sMv l yX2_letBrineFlowOn wsX2_letBrineFlowOn ({ frames := 2, cells := 0, slots := 0, locals := 50 }) D a cs [.ref (a (1 + r))] σ (f_X2_letBrineFlowOn σ r) := by
  intro sz
  refine Met.ofW (cc := cX2_letBrineFlowOn) (maxL := 5) (ret := none) (by decide) rfl ?_
  intro p e s m args below meth c s₁ B hml hv
  obtain ⟨rfl, hsz, hv2⟩ := hv
  have hv3 : sB D a cs σ sz s := ⟨hsz, hv2⟩
  subst hsz
  have hw := sH_start hv3
  obtain ⟨-, -, hK, -, hN⟩ := hv3
  have hx := B.exec
  have hb := B.bytes
  have hr := B.returns
  have hts := atoms_spec (ws := wsX2_letBrineFlowOn) B.pre
  have hown : s.vm.findClass RX2 = some m.cls := findClass_of_methodNamed B.named
  have hlocks := B.notSynchronized
  have hA : ∀ q : Nat, s.heap.size ≤ q → sA a s.heap.size q := sA_new
  have hl := lv_entry ([.ref (a (1 + r))]) (n := 5) (Nat.le_of_ble_eq_true rfl)
  rw [lg_entry_eq]
  generalize (lg_sl ([.ref (a (1 + r))]) ++ List.replicate (5 - (lg_sl ([.ref (a (1 + r))])).length) Slot.unset).toArray = ls at hl ⊢
  have hl : lv_has ls 5 [(0, .ref (a (1 + r)))] := hl
  refine lv_bipush (v := 7) hx hb dX2_letBrineFlowOn_0 (by decide) ?_
  refine lv_istore_n (lv' := [(1, .int 7), (0, .ref (a (1 + r)))]) hx hb dX2_letBrineFlowOn_2 rfl hl (by decide) rfl (fun ls hl => ?_)
  have loop : ∀ (Q : State → Prop) (n : Nat) (τ : sS)  (H : Heap) (locs : List Loc) (ls : Array Slot), n ≤ 7 → sH D a cs (sA a s.heap.size) s.heap τ H locs → lv_has ls 5 [(0, .ref (a (1 + r))), (1, .int (nI n))] → (∀ (H : Heap) (locs : List Loc) (ls : Array Slot), sH D a cs (sA a s.heap.size) s.heap (f_X2_flow r n τ) H locs → lv_has ls 5 [(0, .ref (a (1 + r)))] → W p l e { frames := 2, cells := 0, slots := 0, locals := 50 } s m #[Value.ref (a (1 + r))] below meth c H locs 0 0 Q (F0 m 78 ls [])) → W p l e { frames := 2, cells := 0, slots := 0, locals := 50 } s m #[Value.ref (a (1 + r))] below meth c H locs 0 0 Q (F0 m 3 ls []) := by
    intro Q n
    induction n with
    | zero =>
      intro τ  H locs ls hkn hw hl kont
      refine lv_iload_n hx hb dX2_letBrineFlowOn_3 rfl (lv_at hl 1 rfl) ?_
      refine lv_if_le (tgt := 78) hx hb dX2_letBrineFlowOn_4 (by decide) (fun c1 => ?_) (fun c1 => absurd (by decide) c1)
      exact kont H locs ls hw (lv_sub hl [0] rfl)
    | succ n ih =>
      intro τ  H locs ls hkn hw hl kont
      refine lv_iload_n hx hb dX2_letBrineFlowOn_3 rfl (lv_at hl 1 rfl) ?_
      refine lv_if_le (tgt := 78) hx hb dX2_letBrineFlowOn_4 (by decide) (fun c2 => absurd c2 (nI_nle (by omega) (by omega))) (fun c2 => ?_)
      refine lv_aload_n hx hb dX2_letBrineFlowOn_7 rfl (lv_at hl 0 rfl) ?_
      refine sg_rq (r := r) hx hb hts iX2_letBrineFlowOn_X2 hown hK hw hr2 (hts _ mX2_letBrineFlowOn_0) dX2_letBrineFlowOn_8 ?_
      refine lv_iload_n hx hb dX2_letBrineFlowOn_11 rfl (lv_at hl 1 rfl) ?_
      refine lv_iconst (v := 1) hx hb dX2_letBrineFlowOn_12 (by decide) ?_
      refine lv_isub hx hb dX2_letBrineFlowOn_13 ?_
      refine sg_q (r := r) (k := n) hx hb hK hw hr2 (by omega) (nI_pred n) dX2_letBrineFlowOn_14 ?_
      refine lv_astore_n (lv' := [(2, .ref (a (5 + 8 * r + n))), (0, .ref (a (1 + r))), (1, .int (nI (n + 1)))]) hx hb dX2_letBrineFlowOn_15 rfl hl (by decide) rfl (fun ls hl => ?_)
      refine lv_aload_n hx hb dX2_letBrineFlowOn_16 rfl (lv_at hl 1 rfl) ?_
      refine sg_rq (r := r) hx hb hts iX2_letBrineFlowOn_X2 hown hK hw hr2 (hts _ mX2_letBrineFlowOn_0) dX2_letBrineFlowOn_17 ?_
      refine lv_iload_n hx hb dX2_letBrineFlowOn_20 rfl (lv_at hl 2 rfl) ?_
      refine sg_q (r := r) (k := (n + 1)) hx hb hK hw hr2 (by omega) rfl dX2_letBrineFlowOn_21 ?_
      refine lv_astore_n (lv' := [(3, .ref (a (5 + 8 * r + (n + 1)))), (2, .ref (a (5 + 8 * r + n))), (0, .ref (a (1 + r))), (1, .int (nI (n + 1)))]) hx hb dX2_letBrineFlowOn_22 rfl hl (by decide) rfl (fun ls hl => ?_)
      refine lv_aload_n hx hb dX2_letBrineFlowOn_23 rfl (lv_at hl 1 rfl) ?_
      have hw := sH_foc (i := 5 + 8 * r + n) hw
      refine sc_i (sr_V (i := 5 + 8 * r + n) (As := []) (rest := []) ⟨hx, hb, hml, hown, hts⟩ (zX1_level l D a cs _ (5 + 8 * r + n) (by omega) _ _) (cwV 0 hts gX2_letBrineFlowOn_X1_level rfl rfl rfl (by decide +kernel) ⟨Nat.le_of_ble_eq_true rfl, Nat.le_of_ble_eq_true rfl⟩) hK hN hw (by omega) (sE_p (by omega)) kcX1 rfl hl.1 (Nat.le_of_ble_eq_true rfl) dX2_letBrineFlowOn_24 ⟨Nat.le_of_ble_eq_true rfl, Nat.le_of_ble_eq_true rfl⟩) hw hA (fun H locs hw => ?_)
      have hw := sH_unf hw
      refine lv_aload_n hx hb dX2_letBrineFlowOn_27 rfl (lv_at hl 0 rfl) ?_
      have hw := sH_foc (i := 5 + 8 * r + (n + 1)) hw
      refine sc_i (sr_V (i := 5 + 8 * r + (n + 1)) (As := []) (rest := [.int (f_X1_level (τ (5 + 8 * r + n)))]) ⟨hx, hb, hml, hown, hts⟩ (zX1_level l D a cs _ (5 + 8 * r + (n + 1)) (by omega) _ _) (cwV 0 hts gX2_letBrineFlowOn_X1_level rfl rfl rfl (by decide +kernel) ⟨Nat.le_of_ble_eq_true rfl, Nat.le_of_ble_eq_true rfl⟩) hK hN hw (by omega) (sE_p (by omega)) kcX1 rfl hl.1 (Nat.le_of_ble_eq_true rfl) dX2_letBrineFlowOn_28 ⟨Nat.le_of_ble_eq_true rfl, Nat.le_of_ble_eq_true rfl⟩) hw hA (fun H locs hw => ?_)
      have hw := sH_unf hw
      refine lv_isub hx hb dX2_letBrineFlowOn_31 ?_
      refine lw_topi (fun x3 ex3 => ?_)
      refine lv_istore (lv' := [(4, .int x3), (3, .ref (a (5 + 8 * r + (n + 1)))), (2, .ref (a (5 + 8 * r + n))), (0, .ref (a (1 + r))), (1, .int (nI (n + 1)))]) hx hb dX2_letBrineFlowOn_32 hl (by decide) rfl (fun ls hl => ?_)
      refine lv_aload_n hx hb dX2_letBrineFlowOn_34 rfl (lv_at hl 1 rfl) ?_
      refine sg_p hx hb hts iX2_letBrineFlowOn_X1 hown hK hw (by omega) 9 (by decide) (hts _ mX2_letBrineFlowOn_2) dX2_letBrineFlowOn_35 ?_
      refine lv_if_eq (tgt := 72) hx hb dX2_letBrineFlowOn_38 (by decide) (fun c4 => ?_) (fun c4 => ?_)
      · refine lv_iinc (v := nI n) (lv' := [(1, .int (nI n)), (4, .int x3), (3, .ref (a (5 + 8 * r + (n + 1)))), (2, .ref (a (5 + 8 * r + n))), (0, .ref (a (1 + r)))]) hx hb dX2_letBrineFlowOn_72 hl (k := 4) rfl (nI_dec n) (by decide) rfl (fun ls hl => ?_)
        refine lv_goto (tgt := 3) hx hb dX2_letBrineFlowOn_75 (by decide) ?_
        have hstep : f_X2_flow r (n + 1) τ = f_X2_flow r n τ := by
          subst ex3; show f_X2_flow r n (f_X2_flowStep τ r n) = _; unfold f_X2_flowStep; rw [if_pos c4] <;> rfl
        exact ih  τ  H locs ls (by omega) hw (lv_sub hl [4, 0] rfl) (fun H locs ls hw hl => kont H locs ls (by rw [hstep]; exact hw) (by exact hl))
      · refine lv_iload hx hb dX2_letBrineFlowOn_41 (lv_at hl 0 rfl) ?_
        refine lv_if_le (tgt := 72) hx hb dX2_letBrineFlowOn_43 (by decide) (fun c5 => ?_) (fun c5 => ?_)
        · refine lv_iinc (v := nI n) (lv' := [(1, .int (nI n)), (4, .int x3), (3, .ref (a (5 + 8 * r + (n + 1)))), (2, .ref (a (5 + 8 * r + n))), (0, .ref (a (1 + r)))]) hx hb dX2_letBrineFlowOn_72 hl (k := 4) rfl (nI_dec n) (by decide) rfl (fun ls hl => ?_)
          refine lv_goto (tgt := 3) hx hb dX2_letBrineFlowOn_75 (by decide) ?_
          have hstep : f_X2_flow r (n + 1) τ = f_X2_flow r n τ := by
            subst ex3; show f_X2_flow r n (f_X2_flowStep τ r n) = _; unfold f_X2_flowStep; rw [if_neg c4, if_pos c5] <;> rfl
          exact ih  τ  H locs ls (by omega) hw (lv_sub hl [4, 0] rfl) (fun H locs ls hw hl => kont H locs ls (by rw [hstep]; exact hw) (by exact hl))
        · refine lv_aload_n hx hb dX2_letBrineFlowOn_46 rfl (lv_at hl 2 rfl) ?_
          refine lv_aload_n hx hb dX2_letBrineFlowOn_47 rfl (lv_at hl 1 rfl) ?_
          refine lv_iload hx hb dX2_letBrineFlowOn_48 (lv_at hl 0 rfl) ?_
          refine lv_i2l hx hb dX2_letBrineFlowOn_50 rfl ?_
          refine lv_aload_n hx hb dX2_letBrineFlowOn_51 rfl (lv_at hl 2 rfl) ?_
          refine sg_p hx hb hts iX2_letBrineFlowOn_X1 hown hK hw (by omega) 0 (by decide) (hts _ mX2_letBrineFlowOn_4) dX2_letBrineFlowOn_52 ?_
          refine lv_aload_n hx hb dX2_letBrineFlowOn_55 rfl (lv_at hl 1 rfl) ?_
          refine sg_p hx hb hts iX2_letBrineFlowOn_X1 hown hK hw (by omega) 0 (by decide) (hts _ mX2_letBrineFlowOn_4) dX2_letBrineFlowOn_56 ?_
          refine va_mmin hx hb (hml.trans hl.1.symm) hown (hts _ mX2_letBrineFlowOn_5) (hts _ mX2_letBrineFlowOn_6) (hts _ mX2_letBrineFlowOn_7) (hts _ mX2_letBrineFlowOn_8) (Nat.le_of_ble_eq_true rfl) (Nat.le_of_ble_eq_true rfl) (Nat.le_of_ble_eq_true rfl) (Nat.le_of_ble_eq_true rfl) dX2_letBrineFlowOn_59 ?_
          refine lw_topi (fun x6 ex6 => ?_)
          refine lv_i2l hx hb dX2_letBrineFlowOn_62 rfl ?_
          refine lv_ldc2 (v := 2) hx hb hown (hts _ mX2_letBrineFlowOn_9) dX2_letBrineFlowOn_63 ?_
          refine sc_i (sr_N (As := [.long x3.toInt64, .long x6.toInt64, .long 2]) (rest := [.ref (a (5 + 8 * r + (n + 1))), .ref (a (5 + 8 * r + n))]) ⟨hx, hb, hml, hown, hts⟩ (zX3_portion l D a cs _ x3.toInt64 x6.toInt64 2 _) (va_cnB 3 hts gX2_letBrineFlowOn_X3_portion_n84 rfl rfl rfl (sN_X2_X3_portion hN) (hts _ mX2_letBrineFlowOn_10) (by decide +kernel) ⟨Nat.le_of_ble_eq_true rfl, Nat.le_of_ble_eq_true rfl⟩) (hts _ mX2_letBrineFlowOn_11) hK hN hw rfl hl.1 (Nat.le_of_ble_eq_true rfl) dX2_letBrineFlowOn_66 ⟨Nat.le_of_ble_eq_true rfl, Nat.le_of_ble_eq_true rfl⟩) hw hA (fun H locs hw => ?_)
          refine sc_v (sr_V (i := 5 + 8 * r + n) (As := [.ref (a (5 + 8 * r + (n + 1))), .int (f_X3_portion x3.toInt64 x6.toInt64 2)]) (rest := []) ⟨hx, hb, hml, hown, hts⟩ (zX1_giveBrine l D a cs _ (5 + 8 * r + n) (5 + 8 * r + (n + 1)) (by omega) (by omega) (by omega) (f_X3_portion x3.toInt64 x6.toInt64 2) _) (cwV 2 hts gX2_letBrineFlowOn_X1_giveBrine rfl rfl rfl (by decide +kernel) ⟨Nat.le_of_ble_eq_true rfl, Nat.le_of_ble_eq_true rfl⟩) hK hN hw (by omega) (sE_p (by omega)) kcX1 rfl hl.1 (Nat.le_of_ble_eq_true rfl) dX2_letBrineFlowOn_69 ⟨Nat.le_of_ble_eq_true rfl, Nat.le_of_ble_eq_true rfl⟩) hw hA (fun H locs hw => ?_)
          obtain ⟨τ7, eτ7⟩ : ∃ zz : sS, f_X1_giveBrine τ (5 + 8 * r + n) (5 + 8 * r + (n + 1)) (f_X3_portion x3.toInt64 x6.toInt64 2) = zz := ⟨_, rfl⟩
          rw [eτ7] at hw
          refine lv_iinc (v := nI n) (lv' := [(1, .int (nI n)), (4, .int x3), (3, .ref (a (5 + 8 * r + (n + 1)))), (2, .ref (a (5 + 8 * r + n))), (0, .ref (a (1 + r)))]) hx hb dX2_letBrineFlowOn_72 hl (k := 4) rfl (nI_dec n) (by decide) rfl (fun ls hl => ?_)
          refine lv_goto (tgt := 3) hx hb dX2_letBrineFlowOn_75 (by decide) ?_
          have hstep : f_X2_flow r (n + 1) τ = f_X2_flow r n τ7 := by
            subst eτ7 ex6 ex3; show f_X2_flow r n (f_X2_flowStep τ r n) = _; unfold f_X2_flowStep; rw [if_neg c4, if_neg c5] <;> rfl
          exact ih  τ7  H locs ls (by omega) hw (lv_sub hl [4, 0] rfl) (fun H locs ls hw hl => kont H locs ls (by rw [hstep]; exact hw) (by exact hl))
  refine loop _ 7 σ  _ _ _ (by decide) hw (lv_sub hl [1, 0] rfl) (fun H locs ls hw hl => ?_)
  obtain ⟨τ8, eτ8⟩ : ∃ zz : sS, f_X2_flow r 7 σ = zz := ⟨_, rfl⟩
  rw [eτ8] at hw
  exact se_v hx hb hr hlocks hw (by subst eτ8; exact rfl) dX2_letBrineFlowOn_78
theorem mX2_letDayGoBy_0 : (Cond.fieldLink RX2 18 "SaltRow$Row" "day" "I") ∈ wsX2_letDayGoBy := by decide +kernel
theorem iX2_letDayGoBy_X2 : ∀ w ∈ wsX20, w ∈ wsX2_letDayGoBy := by decide +kernel
theorem mX2_letDayGoBy_2 : (Cond.fieldLink RX2 22 "SaltRow$Row" "sun" "I") ∈ wsX2_letDayGoBy := by decide +kernel
theorem mX2_letDayGoBy_3 : (Cond.fieldLink RX2 25 "SaltRow$Row" "wind" "I") ∈ wsX2_letDayGoBy := by decide +kernel
theorem mX2_letDayGoBy_4 : (Cond.fieldLink RX2 11 "SaltRow$Row" "ponds" "[LSaltRow$Pond;") ∈ wsX2_letDayGoBy := by decide +kernel
theorem mX2_letDayGoBy_5 : (Cond.fieldLink RX2 41 "SaltRow$Pond" "wasHarvested" "Z") ∈ wsX2_letDayGoBy := by decide +kernel
theorem iX2_letDayGoBy_X1 : ∀ w ∈ wsX10, w ∈ wsX2_letDayGoBy := by decide +kernel
set_option maxHeartbeats 4000000 in
set_option maxRecDepth 100000 in
theorem zX2_letDayGoBy (l : Launch) (D : va_G) (a : Nat → Nat) (cs : Nat → ClassId) (σ : sS) (r : Nat) (hr2 : r < 2) (x : Int32) (y : Int32) (z : Int32) : sMv l yX2_letDayGoBy wsX2_letDayGoBy ({ frames := 3, cells := 0, slots := 0, locals := 74 }) D a cs [.ref (a (1 + r)), .int x, .int y, .int z] σ (f_X2_letDayGoBy σ r x y z) := by
  intro sz
  refine Met.ofW (cc := cX2_letDayGoBy) (maxL := 6) (ret := none) (by decide) rfl ?_
  intro p e s m args below meth c s₁ B hml hv
  obtain ⟨rfl, hsz, hv2⟩ := hv
  have hv3 : sB D a cs σ sz s := ⟨hsz, hv2⟩
  subst hsz
  have hw := sH_start hv3
  obtain ⟨-, -, hK, -, hN⟩ := hv3
  have hx := B.exec
  have hb := B.bytes
  have hr := B.returns
  have hts := atoms_spec (ws := wsX2_letDayGoBy) B.pre
  have hown : s.vm.findClass RX2 = some m.cls := findClass_of_methodNamed B.named
  have hlocks := B.notSynchronized
  have hA : ∀ q : Nat, s.heap.size ≤ q → sA a s.heap.size q := sA_new
  have hl := lv_entry ([.ref (a (1 + r)), .int x, .int y, .int z]) (n := 6) (Nat.le_of_ble_eq_true rfl)
  rw [lg_entry_eq]
  generalize (lg_sl ([.ref (a (1 + r)), .int x, .int y, .int z]) ++ List.replicate (6 - (lg_sl ([.ref (a (1 + r)), .int x, .int y, .int z])).length) Slot.unset).toArray = ls at hl ⊢
  have hl : lv_has ls 6 [(0, .ref (a (1 + r))), (1, .int x), (2, .int y), (3, .int z)] := hl
  refine lv_aload_n hx hb dX2_letDayGoBy_0 rfl (lv_at hl 0 rfl) ?_
  refine lv_dup hx hb dX2_letDayGoBy_1 rfl ?_
  refine sg_r (r := r) hx hb hts iX2_letDayGoBy_X2 hown hK hw hr2 1 (by decide) (hts _ mX2_letDayGoBy_0) dX2_letDayGoBy_2 ?_
  refine lv_iconst (v := 1) hx hb dX2_letDayGoBy_5 (by decide) ?_
  refine lv_iadd hx hb dX2_letDayGoBy_6 ?_
  refine sp_r (r := r) hx hb hts iX2_letDayGoBy_X2 hown hK hw hr2 1 (by decide) (hts _ mX2_letDayGoBy_0) dX2_letDayGoBy_7 (fun H locs hw => ?_)
  obtain ⟨τ1, eτ1⟩ : ∃ zz : sS, va_up σ (1 + r) (upd (σ (1 + r)) 1 ((σ (1 + r) 1) + 1)) = zz := ⟨_, rfl⟩
  rw [eτ1] at hw
  refine lv_aload_n hx hb dX2_letDayGoBy_10 rfl (lv_at hl 0 rfl) ?_
  refine lv_iload_n hx hb dX2_letDayGoBy_11 rfl (lv_at hl 1 rfl) ?_
  refine sp_r (r := r) hx hb hts iX2_letDayGoBy_X2 hown hK hw hr2 2 (by decide) (hts _ mX2_letDayGoBy_2) dX2_letDayGoBy_12 (fun H locs hw => ?_)
  obtain ⟨τ2, eτ2⟩ : ∃ zz : sS, va_up τ1 (1 + r) (upd (τ1 (1 + r)) 2 x) = zz := ⟨_, rfl⟩
  rw [eτ2] at hw
  refine lv_aload_n hx hb dX2_letDayGoBy_15 rfl (lv_at hl 0 rfl) ?_
  refine lv_iload_n hx hb dX2_letDayGoBy_16 rfl (lv_at hl 2 rfl) ?_
  refine sp_r (r := r) hx hb hts iX2_letDayGoBy_X2 hown hK hw hr2 3 (by decide) (hts _ mX2_letDayGoBy_3) dX2_letDayGoBy_17 (fun H locs hw => ?_)
  obtain ⟨τ3, eτ3⟩ : ∃ zz : sS, va_up τ2 (1 + r) (upd (τ2 (1 + r)) 3 y) = zz := ⟨_, rfl⟩
  rw [eτ3] at hw
  refine lv_aload_n hx hb dX2_letDayGoBy_20 rfl (lv_at hl 0 rfl) ?_
  refine sc_v (sr_V (i := 1 + r) (As := []) (rest := []) ⟨hx, hb, hml, hown, hts⟩ (zX2_letSeaIn l D a cs _ r hr2 _) (cwV 0 hts gX2_letDayGoBy_X2_letSeaIn rfl rfl rfl (by decide +kernel) ⟨Nat.le_of_ble_eq_true rfl, Nat.le_of_ble_eq_true rfl⟩) hK hN hw (by omega) (sE_r hr2) kcX2 rfl hl.1 (Nat.le_of_ble_eq_true rfl) dX2_letDayGoBy_21 ⟨Nat.le_of_ble_eq_true rfl, Nat.le_of_ble_eq_true rfl⟩) hw hA (fun H locs hw => ?_)
  obtain ⟨τ4, eτ4⟩ : ∃ zz : sS, f_X2_letSeaIn τ3 r = zz := ⟨_, rfl⟩
  rw [eτ4] at hw
  refine lv_aload_n hx hb dX2_letDayGoBy_24 rfl (lv_at hl 0 rfl) ?_
  refine sc_v (sr_V (i := 1 + r) (As := []) (rest := []) ⟨hx, hb, hml, hown, hts⟩ (zX2_letBrineFlowOn l D a cs _ r hr2 _) (cwV 0 hts gX2_letDayGoBy_X2_letBrineFlowOn rfl rfl rfl (by decide +kernel) ⟨Nat.le_of_ble_eq_true rfl, Nat.le_of_ble_eq_true rfl⟩) hK hN hw (by omega) (sE_r hr2) kcX2 rfl hl.1 (Nat.le_of_ble_eq_true rfl) dX2_letDayGoBy_25 ⟨Nat.le_of_ble_eq_true rfl, Nat.le_of_ble_eq_true rfl⟩) hw hA (fun H locs hw => ?_)
  obtain ⟨τ5, eτ5⟩ : ∃ zz : sS, f_X2_letBrineFlowOn τ4 r = zz := ⟨_, rfl⟩
  rw [eτ5] at hw
  refine lv_iconst (v := 0) hx hb dX2_letDayGoBy_28 (by decide) ?_
  refine lv_istore (lv' := [(4, .int 0), (0, .ref (a (1 + r))), (1, .int x), (2, .int y), (3, .int z)]) hx hb dX2_letDayGoBy_29 hl (by decide) rfl (fun ls hl => ?_)
  have loop : ∀ (Q : State → Prop) (n : Nat) (k : Nat) (τ : sS)  (H : Heap) (locs : List Loc) (ls : Array Slot), k + n = 8 → sH D a cs (sA a s.heap.size) s.heap τ H locs → lv_has ls 6 [(0, .ref (a (1 + r))), (3, .int z), (4, .int (nI k))] → (∀ (H : Heap) (locs : List Loc) (ls : Array Slot), sH D a cs (sA a s.heap.size) s.heap (f_X2_ponds r z n k τ) H locs → lv_has ls 6 [(0, .ref (a (1 + r)))] → W p l e { frames := 3, cells := 0, slots := 0, locals := 74 } s m #[Value.ref (a (1 + r)), Value.int x, Value.int y, Value.int z] below meth c H locs 0 0 Q (F0 m 89 ls [])) → W p l e { frames := 3, cells := 0, slots := 0, locals := 74 } s m #[Value.ref (a (1 + r)), Value.int x, Value.int y, Value.int z] below meth c H locs 0 0 Q (F0 m 31 ls []) := by
    intro Q n
    induction n with
    | zero =>
      intro k τ  H locs ls hkn hw hl kont
      refine lv_iload hx hb dX2_letDayGoBy_31 (lv_at hl 2 rfl) ?_
      refine lv_bipush (v := 8) hx hb dX2_letDayGoBy_33 (by decide) ?_
      refine lv_icmp_ge (tgt := 89) hx hb dX2_letDayGoBy_35 (by decide) (fun c6 => ?_) (fun c6 => absurd (by rw [show k = 8 by omega]; decide) c6)
      exact kont H locs ls hw (lv_sub hl [0] rfl)
    | succ n ih =>
      intro k τ  H locs ls hkn hw hl kont
      refine lv_iload hx hb dX2_letDayGoBy_31 (lv_at hl 2 rfl) ?_
      refine lv_bipush (v := 8) hx hb dX2_letDayGoBy_33 (by decide) ?_
      refine lv_icmp_ge (tgt := 89) hx hb dX2_letDayGoBy_35 (by decide) (fun c7 => absurd c7 (nI_ge (a := k) (b := 8) (by omega) (by decide))) (fun c7 => ?_)
      refine lv_aload_n hx hb dX2_letDayGoBy_38 rfl (lv_at hl 0 rfl) ?_
      refine sg_rq (r := r) hx hb hts iX2_letDayGoBy_X2 hown hK hw hr2 (hts _ mX2_letDayGoBy_4) dX2_letDayGoBy_39 ?_
      refine lv_iload hx hb dX2_letDayGoBy_42 (lv_at hl 2 rfl) ?_
      refine sg_q (r := r) (k := k) hx hb hK hw hr2 (by omega) rfl dX2_letDayGoBy_44 ?_
      refine lv_astore (lv' := [(5, .ref (a (5 + 8 * r + k))), (0, .ref (a (1 + r))), (3, .int z), (4, .int (nI k))]) hx hb dX2_letDayGoBy_45 hl (by decide) rfl (fun ls hl => ?_)
      refine lv_aload hx hb dX2_letDayGoBy_47 (lv_at hl 0 rfl) ?_
      refine lv_iconst (v := 0) hx hb dX2_letDayGoBy_49 (by decide) ?_
      refine sp_z hx hb hts iX2_letDayGoBy_X1 hown hK hw (by omega) 11 (Or.inl rfl) (by decide) (hts _ mX2_letDayGoBy_5) dX2_letDayGoBy_50 (fun H locs hw => ?_)
      obtain ⟨τ8, eτ8⟩ : ∃ zz : sS, va_up τ (5 + 8 * r + k) (upd (τ (5 + 8 * r + k)) 11 0) = zz := ⟨_, rfl⟩
      rw [eτ8] at hw
      refine lv_aload hx hb dX2_letDayGoBy_53 (lv_at hl 0 rfl) ?_
      refine lv_iload_n hx hb dX2_letDayGoBy_55 rfl (lv_at hl 2 rfl) ?_
      have hw := sH_foc (i := 5 + 8 * r + k) hw
      refine sc_v (sr_V (i := 5 + 8 * r + k) (As := [.int z]) (rest := []) ⟨hx, hb, hml, hown, hts⟩ (zX1_rainFalls l D a cs _ (5 + 8 * r + k) (by omega) _ z _) (cwV 1 hts gX2_letDayGoBy_X1_rainFalls rfl rfl rfl (by decide +kernel) ⟨Nat.le_of_ble_eq_true rfl, Nat.le_of_ble_eq_true rfl⟩) hK hN hw (by omega) (sE_p (by omega)) kcX1 rfl hl.1 (Nat.le_of_ble_eq_true rfl) dX2_letDayGoBy_56 ⟨Nat.le_of_ble_eq_true rfl, Nat.le_of_ble_eq_true rfl⟩) hw hA (fun H locs hw => ?_)
      obtain ⟨τ9, eτ9⟩ : ∃ zz : sS, va_up τ8 (5 + 8 * r + k) (f_X1_rainFalls (τ8 (5 + 8 * r + k)) z) = zz := ⟨_, rfl⟩
      rw [eτ9] at hw
      refine lv_aload hx hb dX2_letDayGoBy_59 (lv_at hl 0 rfl) ?_
      refine lv_aload_n hx hb dX2_letDayGoBy_61 rfl (lv_at hl 1 rfl) ?_
      refine sg_r (r := r) hx hb hts iX2_letDayGoBy_X2 hown hK hw hr2 2 (by decide) (hts _ mX2_letDayGoBy_2) dX2_letDayGoBy_62 ?_
      refine lv_aload_n hx hb dX2_letDayGoBy_65 rfl (lv_at hl 1 rfl) ?_
      refine sg_r (r := r) hx hb hts iX2_letDayGoBy_X2 hown hK hw hr2 3 (by decide) (hts _ mX2_letDayGoBy_3) dX2_letDayGoBy_66 ?_
      refine lv_iadd hx hb dX2_letDayGoBy_69 ?_
      have hw := sH_foc (i := 5 + 8 * r + k) hw
      refine sc_v (sr_V (i := 5 + 8 * r + k) (As := [.int ((τ9 (1 + r) 2) + (τ9 (1 + r) 3))]) (rest := []) ⟨hx, hb, hml, hown, hts⟩ (zX1_dryOut l D a cs _ (5 + 8 * r + k) (by omega) _ ((τ9 (1 + r) 2) + (τ9 (1 + r) 3)) _) (cwV 1 hts gX2_letDayGoBy_X1_dryOut rfl rfl rfl (by decide +kernel) ⟨Nat.le_of_ble_eq_true rfl, Nat.le_of_ble_eq_true rfl⟩) hK hN hw (by omega) (sE_p (by omega)) kcX1 rfl hl.1 (Nat.le_of_ble_eq_true rfl) dX2_letDayGoBy_70 ⟨Nat.le_of_ble_eq_true rfl, Nat.le_of_ble_eq_true rfl⟩) hw hA (fun H locs hw => ?_)
      obtain ⟨τ10, eτ10⟩ : ∃ zz : sS, va_up τ9 (5 + 8 * r + k) (f_X1_dryOut (τ9 (5 + 8 * r + k)) ((τ9 (1 + r) 2) + (τ9 (1 + r) 3))) = zz := ⟨_, rfl⟩
      rw [eτ10] at hw
      refine lv_aload hx hb dX2_letDayGoBy_73 (lv_at hl 0 rfl) ?_
      have hw := sH_foc (i := 5 + 8 * r + k) hw
      refine sc_v (sr_V (i := 5 + 8 * r + k) (As := []) (rest := []) ⟨hx, hb, hml, hown, hts⟩ (zX1_mixFresh l D a cs _ (5 + 8 * r + k) (by omega) _ _) (cwV 0 hts gX2_letDayGoBy_X1_mixFresh rfl rfl rfl (by decide +kernel) ⟨Nat.le_of_ble_eq_true rfl, Nat.le_of_ble_eq_true rfl⟩) hK hN hw (by omega) (sE_p (by omega)) kcX1 rfl hl.1 (Nat.le_of_ble_eq_true rfl) dX2_letDayGoBy_75 ⟨Nat.le_of_ble_eq_true rfl, Nat.le_of_ble_eq_true rfl⟩) hw hA (fun H locs hw => ?_)
      obtain ⟨τ11, eτ11⟩ : ∃ zz : sS, va_up τ10 (5 + 8 * r + k) (f_X1_mixFresh (τ10 (5 + 8 * r + k))) = zz := ⟨_, rfl⟩
      rw [eτ11] at hw
      refine lv_aload hx hb dX2_letDayGoBy_78 (lv_at hl 0 rfl) ?_
      have hw := sH_foc (i := 5 + 8 * r + k) hw
      refine sc_v (sr_V (i := 5 + 8 * r + k) (As := []) (rest := []) ⟨hx, hb, hml, hown, hts⟩ (zX1_dropMinerals l D a cs _ (5 + 8 * r + k) (by omega) _ _) (cwV 0 hts gX2_letDayGoBy_X1_dropMinerals rfl rfl rfl (by decide +kernel) ⟨Nat.le_of_ble_eq_true rfl, Nat.le_of_ble_eq_true rfl⟩) hK hN hw (by omega) (sE_p (by omega)) kcX1 rfl hl.1 (Nat.le_of_ble_eq_true rfl) dX2_letDayGoBy_80 ⟨Nat.le_of_ble_eq_true rfl, Nat.le_of_ble_eq_true rfl⟩) hw hA (fun H locs hw => ?_)
      obtain ⟨τ12, eτ12⟩ : ∃ zz : sS, va_up τ11 (5 + 8 * r + k) (f_X1_dropMinerals (τ11 (5 + 8 * r + k))) = zz := ⟨_, rfl⟩
      rw [eτ12] at hw
      refine lv_iinc (v := nI (k + 1)) (lv' := [(4, .int (nI (k + 1))), (5, .ref (a (5 + 8 * r + k))), (0, .ref (a (1 + r))), (3, .int z)]) hx hb dX2_letDayGoBy_83 hl (k := 3) rfl (nI_1 k) (by decide) rfl (fun ls hl => ?_)
      refine lv_goto (tgt := 31) hx hb dX2_letDayGoBy_86 (by decide) ?_
      have hstep : f_X2_ponds r z (n + 1) k τ = f_X2_ponds r z n (k + 1) τ12 := by
        subst eτ12 eτ11 eτ10 eτ9 eτ8; rfl
      exact ih (k + 1) τ12  H locs ls (by omega) hw (lv_sub hl [2, 3, 0] rfl) (fun H locs ls hw hl => kont H locs ls (by rw [hstep]; exact hw) (by exact hl))
  refine loop _ 8 0 τ5  _ _ _ (by decide) hw (lv_sub hl [1, 4, 0] rfl) (fun H locs ls hw hl => ?_)
  obtain ⟨τ13, eτ13⟩ : ∃ zz : sS, f_X2_ponds r z 8 0 τ5 = zz := ⟨_, rfl⟩
  rw [eτ13] at hw
  exact se_v hx hb hr hlocks hw (by subst eτ13 eτ5 eτ4 eτ3 eτ2 eτ1; exact rfl) dX2_letDayGoBy_89
theorem mX2_setGates_0 : (Cond.fieldLink RX2 11 "SaltRow$Row" "ponds" "[LSaltRow$Pond;") ∈ wsX2_setGates := by decide +kernel
theorem iX2_setGates_X2 : ∀ w ∈ wsX20, w ∈ wsX2_setGates := by decide +kernel
theorem mX2_setGates_2 : (Cond.fieldLink RX2 66 "SaltRow$Pond" "isOpen" "Z") ∈ wsX2_setGates := by decide +kernel
theorem iX2_setGates_X1 : ∀ w ∈ wsX10, w ∈ wsX2_setGates := by decide +kernel
set_option maxHeartbeats 4000000 in
set_option maxRecDepth 100000 in
theorem zX2_setGates (l : Launch) (D : va_G) (a : Nat → Nat) (cs : Nat → ClassId) (σ : sS) (r : Nat) (hr2 : r < 2) (x : Int32) : sMv l yX2_setGates wsX2_setGates ({ frames := 0, cells := 0, slots := 0, locals := 0 }) D a cs [.ref (a (1 + r)), .int x] σ (f_X2_setGates σ r x) := by
  intro sz
  refine Met.ofW (cc := cX2_setGates) (maxL := 3) (ret := none) (by decide) rfl ?_
  intro p e s m args below meth c s₁ B hml hv
  obtain ⟨rfl, hsz, hv2⟩ := hv
  have hv3 : sB D a cs σ sz s := ⟨hsz, hv2⟩
  subst hsz
  have hw := sH_start hv3
  obtain ⟨-, -, hK, -, hN⟩ := hv3
  have hx := B.exec
  have hb := B.bytes
  have hr := B.returns
  have hts := atoms_spec (ws := wsX2_setGates) B.pre
  have hown : s.vm.findClass RX2 = some m.cls := findClass_of_methodNamed B.named
  have hlocks := B.notSynchronized
  have hA : ∀ q : Nat, s.heap.size ≤ q → sA a s.heap.size q := sA_new
  have hl := lv_entry ([.ref (a (1 + r)), .int x]) (n := 3) (Nat.le_of_ble_eq_true rfl)
  rw [lg_entry_eq]
  generalize (lg_sl ([.ref (a (1 + r)), .int x]) ++ List.replicate (3 - (lg_sl ([.ref (a (1 + r)), .int x])).length) Slot.unset).toArray = ls at hl ⊢
  have hl : lv_has ls 3 [(0, .ref (a (1 + r))), (1, .int x)] := hl
  refine lv_iconst (v := 0) hx hb dX2_setGates_0 (by decide) ?_
  refine lv_istore_n (lv' := [(2, .int 0), (0, .ref (a (1 + r))), (1, .int x)]) hx hb dX2_setGates_1 rfl hl (by decide) rfl (fun ls hl => ?_)
  have loop : ∀ (Q : State → Prop) (n : Nat) (k : Nat) (τ : sS)  (H : Heap) (locs : List Loc) (ls : Array Slot), k + n = 8 → sH D a cs (sA a s.heap.size) s.heap τ H locs → lv_has ls 3 [(0, .ref (a (1 + r))), (1, .int x), (2, .int (nI k))] → (∀ (H : Heap) (locs : List Loc) (ls : Array Slot), sH D a cs (sA a s.heap.size) s.heap (f_X2_gates r x n k τ) H locs → lv_has ls 3 [(0, .ref (a (1 + r)))] → W p l e { frames := 0, cells := 0, slots := 0, locals := 0 } s m #[Value.ref (a (1 + r)), Value.int x] below meth c H locs 0 0 Q (F0 m 37 ls [])) → W p l e { frames := 0, cells := 0, slots := 0, locals := 0 } s m #[Value.ref (a (1 + r)), Value.int x] below meth c H locs 0 0 Q (F0 m 2 ls []) := by
    intro Q n
    induction n with
    | zero =>
      intro k τ  H locs ls hkn hw hl kont
      refine lv_iload_n hx hb dX2_setGates_2 rfl (lv_at hl 2 rfl) ?_
      refine lv_bipush (v := 8) hx hb dX2_setGates_3 (by decide) ?_
      refine lv_icmp_ge (tgt := 37) hx hb dX2_setGates_5 (by decide) (fun c1 => ?_) (fun c1 => absurd (by rw [show k = 8 by omega]; decide) c1)
      exact kont H locs ls hw (lv_sub hl [0] rfl)
    | succ n ih =>
      intro k τ  H locs ls hkn hw hl kont
      refine lv_iload_n hx hb dX2_setGates_2 rfl (lv_at hl 2 rfl) ?_
      refine lv_bipush (v := 8) hx hb dX2_setGates_3 (by decide) ?_
      refine lv_icmp_ge (tgt := 37) hx hb dX2_setGates_5 (by decide) (fun c2 => absurd c2 (nI_ge (a := k) (b := 8) (by omega) (by decide))) (fun c2 => ?_)
      refine lv_aload_n hx hb dX2_setGates_8 rfl (lv_at hl 0 rfl) ?_
      refine sg_rq (r := r) hx hb hts iX2_setGates_X2 hown hK hw hr2 (hts _ mX2_setGates_0) dX2_setGates_9 ?_
      refine lv_iload_n hx hb dX2_setGates_12 rfl (lv_at hl 2 rfl) ?_
      refine sg_q (r := r) (k := k) hx hb hK hw hr2 (by omega) rfl dX2_setGates_13 ?_
      refine lv_iload_n hx hb dX2_setGates_14 rfl (lv_at hl 1 rfl) ?_
      refine lv_iload_n hx hb dX2_setGates_15 rfl (lv_at hl 2 rfl) ?_
      refine lv_ishr hx hb dX2_setGates_16 ?_
      refine lv_iconst (v := 1) hx hb dX2_setGates_17 (by decide) ?_
      refine lv_iand hx hb dX2_setGates_18 ?_
      refine lv_iconst (v := 1) hx hb dX2_setGates_19 (by decide) ?_
      refine lv_icmp_ne (tgt := 27) hx hb dX2_setGates_20 (by decide) (fun c3 => ?_) (fun c3 => ?_)
      · refine lv_iconst (v := 0) hx hb dX2_setGates_27 (by decide) ?_
        refine sp_z hx hb hts iX2_setGates_X1 hown hK hw (by omega) 9 (Or.inl rfl) (by decide) (hts _ mX2_setGates_2) dX2_setGates_28 (fun H locs hw => ?_)
        obtain ⟨τ4, eτ4⟩ : ∃ zz : sS, va_up τ (5 + 8 * r + k) (upd (τ (5 + 8 * r + k)) 9 0) = zz := ⟨_, rfl⟩
        rw [eτ4] at hw
        refine lv_iinc (v := nI (k + 1)) (lv' := [(2, .int (nI (k + 1))), (0, .ref (a (1 + r))), (1, .int x)]) hx hb dX2_setGates_31 hl (k := 2) rfl (nI_1 k) (by decide) rfl (fun ls hl => ?_)
        refine lv_goto (tgt := 2) hx hb dX2_setGates_34 (by decide) ?_
        have hstep : f_X2_gates r x (n + 1) k τ = f_X2_gates r x n (k + 1) τ4 := by
          subst eτ4; show f_X2_gates r x n (k + 1) (va_up τ (5 + 8 * r + k) (upd (τ (5 + 8 * r + k)) 9 (f_bit x k))) = _; unfold f_bit; rw [if_neg c3] <;> rfl
        exact ih (k + 1) τ4  H locs ls (by omega) hw (lv_sub hl [1, 2, 0] rfl) (fun H locs ls hw hl => kont H locs ls (by rw [hstep]; exact hw) (by exact hl))
      · refine lv_iconst (v := 1) hx hb dX2_setGates_23 (by decide) ?_
        refine lv_goto (tgt := 28) hx hb dX2_setGates_24 (by decide) ?_
        refine sp_z hx hb hts iX2_setGates_X1 hown hK hw (by omega) 9 (Or.inr rfl) (by decide) (hts _ mX2_setGates_2) dX2_setGates_28 (fun H locs hw => ?_)
        obtain ⟨τ5, eτ5⟩ : ∃ zz : sS, va_up τ (5 + 8 * r + k) (upd (τ (5 + 8 * r + k)) 9 1) = zz := ⟨_, rfl⟩
        rw [eτ5] at hw
        refine lv_iinc (v := nI (k + 1)) (lv' := [(2, .int (nI (k + 1))), (0, .ref (a (1 + r))), (1, .int x)]) hx hb dX2_setGates_31 hl (k := 2) rfl (nI_1 k) (by decide) rfl (fun ls hl => ?_)
        refine lv_goto (tgt := 2) hx hb dX2_setGates_34 (by decide) ?_
        have hstep : f_X2_gates r x (n + 1) k τ = f_X2_gates r x n (k + 1) τ5 := by
          subst eτ5; show f_X2_gates r x n (k + 1) (va_up τ (5 + 8 * r + k) (upd (τ (5 + 8 * r + k)) 9 (f_bit x k))) = _; unfold f_bit; rw [if_pos c3] <;> rfl
        exact ih (k + 1) τ5  H locs ls (by omega) hw (lv_sub hl [1, 2, 0] rfl) (fun H locs ls hw hl => kont H locs ls (by rw [hstep]; exact hw) (by exact hl))
  refine loop _ 8 0 σ  _ _ _ (by decide) hw (lv_sub hl [1, 2, 0] rfl) (fun H locs ls hw hl => ?_)
  obtain ⟨τ6, eτ6⟩ : ∃ zz : sS, f_X2_gates r x 8 0 σ = zz := ⟨_, rfl⟩
  rw [eτ6] at hw
  exact se_v hx hb hr hlocks hw (by subst eτ6; exact rfl) dX2_setGates_37
theorem mX2_openGates_0 : (Cond.fieldLink RX2 11 "SaltRow$Row" "ponds" "[LSaltRow$Pond;") ∈ wsX2_openGates := by decide +kernel
theorem iX2_openGates_X2 : ∀ w ∈ wsX20, w ∈ wsX2_openGates := by decide +kernel
theorem mX2_openGates_2 : (Cond.fieldLink RX2 66 "SaltRow$Pond" "isOpen" "Z") ∈ wsX2_openGates := by decide +kernel
theorem iX2_openGates_X1 : ∀ w ∈ wsX10, w ∈ wsX2_openGates := by decide +kernel
set_option maxHeartbeats 4000000 in
set_option maxRecDepth 100000 in
theorem zX2_openGates (l : Launch) (D : va_G) (a : Nat → Nat) (cs : Nat → ClassId) (σ : sS) (r : Nat) (hr2 : r < 2)  : sMi l yX2_openGates wsX2_openGates ({ frames := 0, cells := 0, slots := 0, locals := 0 }) D a cs [.ref (a (1 + r))] σ (f_X2_openGates σ r) σ := by
  intro sz
  refine Met.ofW (cc := cX2_openGates) (maxL := 3) (ret := (some .int)) (by decide) rfl ?_
  intro p e s m args below meth c s₁ B hml hv
  obtain ⟨rfl, hsz, hv2⟩ := hv
  have hv3 : sB D a cs σ sz s := ⟨hsz, hv2⟩
  subst hsz
  have hw := sH_start hv3
  obtain ⟨-, -, hK, -, hN⟩ := hv3
  have hx := B.exec
  have hb := B.bytes
  have hr := B.returns
  have hts := atoms_spec (ws := wsX2_openGates) B.pre
  have hown : s.vm.findClass RX2 = some m.cls := findClass_of_methodNamed B.named
  have hlocks := B.notSynchronized
  have hA : ∀ q : Nat, s.heap.size ≤ q → sA a s.heap.size q := sA_new
  have hl := lv_entry ([.ref (a (1 + r))]) (n := 3) (Nat.le_of_ble_eq_true rfl)
  rw [lg_entry_eq]
  generalize (lg_sl ([.ref (a (1 + r))]) ++ List.replicate (3 - (lg_sl ([.ref (a (1 + r))])).length) Slot.unset).toArray = ls at hl ⊢
  have hl : lv_has ls 3 [(0, .ref (a (1 + r)))] := hl
  refine lv_iconst (v := 0) hx hb dX2_openGates_0 (by decide) ?_
  refine lv_istore_n (lv' := [(1, .int 0), (0, .ref (a (1 + r)))]) hx hb dX2_openGates_1 rfl hl (by decide) rfl (fun ls hl => ?_)
  refine lv_iconst (v := 0) hx hb dX2_openGates_2 (by decide) ?_
  refine lv_istore_n (lv' := [(2, .int 0), (1, .int 0), (0, .ref (a (1 + r)))]) hx hb dX2_openGates_3 rfl hl (by decide) rfl (fun ls hl => ?_)
  have loop : ∀ (Q : State → Prop) (n : Nat) (k : Nat) (τ : sS) (v : Int32) (H : Heap) (locs : List Loc) (ls : Array Slot), k + n = 8 → sH D a cs (sA a s.heap.size) s.heap τ H locs → lv_has ls 3 [(0, .ref (a (1 + r))), (1, .int v), (2, .int (nI k))] → (∀ (H : Heap) (locs : List Loc) (ls : Array Slot), sH D a cs (sA a s.heap.size) s.heap (τ) H locs → lv_has ls 3 [(1, .int (f_X2_gsum r τ n k v))] → W p l e { frames := 0, cells := 0, slots := 0, locals := 0 } s m #[Value.ref (a (1 + r))] below meth c H locs 0 0 Q (F0 m 38 ls [])) → W p l e { frames := 0, cells := 0, slots := 0, locals := 0 } s m #[Value.ref (a (1 + r))] below meth c H locs 0 0 Q (F0 m 4 ls []) := by
    intro Q n
    induction n with
    | zero =>
      intro k τ v H locs ls hkn hw hl kont
      refine lv_iload_n hx hb dX2_openGates_4 rfl (lv_at hl 2 rfl) ?_
      refine lv_bipush (v := 8) hx hb dX2_openGates_5 (by decide) ?_
      refine lv_icmp_ge (tgt := 38) hx hb dX2_openGates_7 (by decide) (fun c1 => ?_) (fun c1 => absurd (by rw [show k = 8 by omega]; decide) c1)
      exact kont H locs ls hw (lv_sub hl [1] rfl)
    | succ n ih =>
      intro k τ v H locs ls hkn hw hl kont
      refine lv_iload_n hx hb dX2_openGates_4 rfl (lv_at hl 2 rfl) ?_
      refine lv_bipush (v := 8) hx hb dX2_openGates_5 (by decide) ?_
      refine lv_icmp_ge (tgt := 38) hx hb dX2_openGates_7 (by decide) (fun c2 => absurd c2 (nI_ge (a := k) (b := 8) (by omega) (by decide))) (fun c2 => ?_)
      refine lv_iload_n hx hb dX2_openGates_10 rfl (lv_at hl 1 rfl) ?_
      refine lv_aload_n hx hb dX2_openGates_11 rfl (lv_at hl 0 rfl) ?_
      refine sg_rq (r := r) hx hb hts iX2_openGates_X2 hown hK hw hr2 (hts _ mX2_openGates_0) dX2_openGates_12 ?_
      refine lv_iload_n hx hb dX2_openGates_15 rfl (lv_at hl 2 rfl) ?_
      refine sg_q (r := r) (k := k) hx hb hK hw hr2 (by omega) rfl dX2_openGates_16 ?_
      refine sg_p hx hb hts iX2_openGates_X1 hown hK hw (by omega) 9 (by decide) (hts _ mX2_openGates_2) dX2_openGates_17 ?_
      refine lv_if_eq (tgt := 29) hx hb dX2_openGates_20 (by decide) (fun c3 => ?_) (fun c3 => ?_)
      · refine lv_iconst (v := 0) hx hb dX2_openGates_29 (by decide) ?_
        refine lv_iadd hx hb dX2_openGates_30 ?_
        refine lv_istore_n (lv' := [(1, .int (v + 0)), (0, .ref (a (1 + r))), (2, .int (nI k))]) hx hb dX2_openGates_31 rfl hl (by decide) rfl (fun ls hl => ?_)
        refine lv_iinc (v := nI (k + 1)) (lv' := [(2, .int (nI (k + 1))), (1, .int (v + 0)), (0, .ref (a (1 + r)))]) hx hb dX2_openGates_32 hl (k := 2) rfl (nI_1 k) (by decide) rfl (fun ls hl => ?_)
        refine lv_goto (tgt := 4) hx hb dX2_openGates_35 (by decide) ?_
        have hstep : τ = τ := by
          rfl
        have hval0 : f_X2_gsum r τ (n + 1) k v = f_X2_gsum r τ n (k + 1) (v + 0) := by
          show f_X2_gsum r τ n (k + 1) (v + f_gbit (τ (5 + 8 * r + k) 9) k) = _; unfold f_gbit; rw [if_pos c3] <;> rfl
        exact ih (k + 1) τ (v + 0) H locs ls (by omega) hw (lv_sub hl [2, 1, 0] rfl) (fun H locs ls hw hl => kont H locs ls (by rw [hstep]; exact hw) (by rw [hval0]; exact hl))
      · refine lv_iconst (v := 1) hx hb dX2_openGates_23 (by decide) ?_
        refine lv_iload_n hx hb dX2_openGates_24 rfl (lv_at hl 2 rfl) ?_
        refine lv_ishl hx hb dX2_openGates_25 ?_
        refine lv_goto (tgt := 30) hx hb dX2_openGates_26 (by decide) ?_
        refine lv_iadd hx hb dX2_openGates_30 ?_
        refine lw_topi (fun x4 ex4 => ?_)
        refine lv_istore_n (lv' := [(1, .int x4), (0, .ref (a (1 + r))), (2, .int (nI k))]) hx hb dX2_openGates_31 rfl hl (by decide) rfl (fun ls hl => ?_)
        refine lv_iinc (v := nI (k + 1)) (lv' := [(2, .int (nI (k + 1))), (1, .int x4), (0, .ref (a (1 + r)))]) hx hb dX2_openGates_32 hl (k := 2) rfl (nI_1 k) (by decide) rfl (fun ls hl => ?_)
        refine lv_goto (tgt := 4) hx hb dX2_openGates_35 (by decide) ?_
        have hstep : τ = τ := by
          subst ex4; rfl
        have hval0 : f_X2_gsum r τ (n + 1) k v = f_X2_gsum r τ n (k + 1) x4 := by
          subst ex4; show f_X2_gsum r τ n (k + 1) (v + f_gbit (τ (5 + 8 * r + k) 9) k) = _; unfold f_gbit; rw [if_neg c3] <;> rfl
        exact ih (k + 1) τ x4 H locs ls (by omega) hw (lv_sub hl [2, 1, 0] rfl) (fun H locs ls hw hl => kont H locs ls (by rw [hstep]; exact hw) (by rw [hval0]; exact hl))
  refine loop _ 8 0 σ 0 _ _ _ (by decide) hw (lv_sub hl [2, 1, 0] rfl) (fun H locs ls hw hl => ?_)
  obtain ⟨τ5, eτ5⟩ : ∃ zz : sS, σ = zz := ⟨_, rfl⟩
  rw [eτ5] at hw
  refine lv_iload_n hx hb dX2_openGates_38 rfl (lv_at hl 0 rfl) ?_
  exact se_i hx hb hr hlocks hw (by subst eτ5; exact rfl) (by subst eτ5; rfl) dX2_openGates_39
theorem mX2_coveredPans_0 : (Cond.fieldLink RX2 11 "SaltRow$Row" "ponds" "[LSaltRow$Pond;") ∈ wsX2_coveredPans := by decide +kernel
theorem iX2_coveredPans_X2 : ∀ w ∈ wsX20, w ∈ wsX2_coveredPans := by decide +kernel
theorem mX2_coveredPans_2 : (Cond.fieldLink RX2 92 "SaltRow$Pond" "isCovered" "Z") ∈ wsX2_coveredPans := by decide +kernel
theorem iX2_coveredPans_X1 : ∀ w ∈ wsX10, w ∈ wsX2_coveredPans := by decide +kernel
set_option maxHeartbeats 4000000 in
set_option maxRecDepth 100000 in
theorem zX2_coveredPans (l : Launch) (D : va_G) (a : Nat → Nat) (cs : Nat → ClassId) (σ : sS) (r : Nat) (hr2 : r < 2)  : sMi l yX2_coveredPans wsX2_coveredPans ({ frames := 0, cells := 0, slots := 0, locals := 0 }) D a cs [.ref (a (1 + r))] σ (f_X2_coveredPans σ r) σ := by
  intro sz
  refine Met.ofW (cc := cX2_coveredPans) (maxL := 3) (ret := (some .int)) (by decide) rfl ?_
  intro p e s m args below meth c s₁ B hml hv
  obtain ⟨rfl, hsz, hv2⟩ := hv
  have hv3 : sB D a cs σ sz s := ⟨hsz, hv2⟩
  subst hsz
  have hw := sH_start hv3
  obtain ⟨-, -, hK, -, hN⟩ := hv3
  have hx := B.exec
  have hb := B.bytes
  have hr := B.returns
  have hts := atoms_spec (ws := wsX2_coveredPans) B.pre
  have hown : s.vm.findClass RX2 = some m.cls := findClass_of_methodNamed B.named
  have hlocks := B.notSynchronized
  have hA : ∀ q : Nat, s.heap.size ≤ q → sA a s.heap.size q := sA_new
  have hl := lv_entry ([.ref (a (1 + r))]) (n := 3) (Nat.le_of_ble_eq_true rfl)
  rw [lg_entry_eq]
  generalize (lg_sl ([.ref (a (1 + r))]) ++ List.replicate (3 - (lg_sl ([.ref (a (1 + r))])).length) Slot.unset).toArray = ls at hl ⊢
  have hl : lv_has ls 3 [(0, .ref (a (1 + r)))] := hl
  refine lv_iconst (v := 0) hx hb dX2_coveredPans_0 (by decide) ?_
  refine lv_istore_n (lv' := [(1, .int 0), (0, .ref (a (1 + r)))]) hx hb dX2_coveredPans_1 rfl hl (by decide) rfl (fun ls hl => ?_)
  refine lv_iconst (v := 0) hx hb dX2_coveredPans_2 (by decide) ?_
  refine lv_istore_n (lv' := [(2, .int 0), (1, .int 0), (0, .ref (a (1 + r)))]) hx hb dX2_coveredPans_3 rfl hl (by decide) rfl (fun ls hl => ?_)
  have loop : ∀ (Q : State → Prop) (n : Nat) (k : Nat) (τ : sS) (v : Int32) (H : Heap) (locs : List Loc) (ls : Array Slot), k + n = 8 → sH D a cs (sA a s.heap.size) s.heap τ H locs → lv_has ls 3 [(0, .ref (a (1 + r))), (1, .int v), (2, .int (nI k))] → (∀ (H : Heap) (locs : List Loc) (ls : Array Slot), sH D a cs (sA a s.heap.size) s.heap (τ) H locs → lv_has ls 3 [(1, .int (f_X2_csum r τ n k v))] → W p l e { frames := 0, cells := 0, slots := 0, locals := 0 } s m #[Value.ref (a (1 + r))] below meth c H locs 0 0 Q (F0 m 38 ls [])) → W p l e { frames := 0, cells := 0, slots := 0, locals := 0 } s m #[Value.ref (a (1 + r))] below meth c H locs 0 0 Q (F0 m 4 ls []) := by
    intro Q n
    induction n with
    | zero =>
      intro k τ v H locs ls hkn hw hl kont
      refine lv_iload_n hx hb dX2_coveredPans_4 rfl (lv_at hl 2 rfl) ?_
      refine lv_bipush (v := 8) hx hb dX2_coveredPans_5 (by decide) ?_
      refine lv_icmp_ge (tgt := 38) hx hb dX2_coveredPans_7 (by decide) (fun c1 => ?_) (fun c1 => absurd (by rw [show k = 8 by omega]; decide) c1)
      exact kont H locs ls hw (lv_sub hl [1] rfl)
    | succ n ih =>
      intro k τ v H locs ls hkn hw hl kont
      refine lv_iload_n hx hb dX2_coveredPans_4 rfl (lv_at hl 2 rfl) ?_
      refine lv_bipush (v := 8) hx hb dX2_coveredPans_5 (by decide) ?_
      refine lv_icmp_ge (tgt := 38) hx hb dX2_coveredPans_7 (by decide) (fun c2 => absurd c2 (nI_ge (a := k) (b := 8) (by omega) (by decide))) (fun c2 => ?_)
      refine lv_iload_n hx hb dX2_coveredPans_10 rfl (lv_at hl 1 rfl) ?_
      refine lv_aload_n hx hb dX2_coveredPans_11 rfl (lv_at hl 0 rfl) ?_
      refine sg_rq (r := r) hx hb hts iX2_coveredPans_X2 hown hK hw hr2 (hts _ mX2_coveredPans_0) dX2_coveredPans_12 ?_
      refine lv_iload_n hx hb dX2_coveredPans_15 rfl (lv_at hl 2 rfl) ?_
      refine sg_q (r := r) (k := k) hx hb hK hw hr2 (by omega) rfl dX2_coveredPans_16 ?_
      refine sg_p hx hb hts iX2_coveredPans_X1 hown hK hw (by omega) 10 (by decide) (hts _ mX2_coveredPans_2) dX2_coveredPans_17 ?_
      refine lv_if_eq (tgt := 29) hx hb dX2_coveredPans_20 (by decide) (fun c3 => ?_) (fun c3 => ?_)
      · refine lv_iconst (v := 0) hx hb dX2_coveredPans_29 (by decide) ?_
        refine lv_iadd hx hb dX2_coveredPans_30 ?_
        refine lv_istore_n (lv' := [(1, .int (v + 0)), (0, .ref (a (1 + r))), (2, .int (nI k))]) hx hb dX2_coveredPans_31 rfl hl (by decide) rfl (fun ls hl => ?_)
        refine lv_iinc (v := nI (k + 1)) (lv' := [(2, .int (nI (k + 1))), (1, .int (v + 0)), (0, .ref (a (1 + r)))]) hx hb dX2_coveredPans_32 hl (k := 2) rfl (nI_1 k) (by decide) rfl (fun ls hl => ?_)
        refine lv_goto (tgt := 4) hx hb dX2_coveredPans_35 (by decide) ?_
        have hstep : τ = τ := by
          rfl
        have hval0 : f_X2_csum r τ (n + 1) k v = f_X2_csum r τ n (k + 1) (v + 0) := by
          show f_X2_csum r τ n (k + 1) (v + f_gbit (τ (5 + 8 * r + k) 10) k) = _; unfold f_gbit; rw [if_pos c3] <;> rfl
        exact ih (k + 1) τ (v + 0) H locs ls (by omega) hw (lv_sub hl [2, 1, 0] rfl) (fun H locs ls hw hl => kont H locs ls (by rw [hstep]; exact hw) (by rw [hval0]; exact hl))
      · refine lv_iconst (v := 1) hx hb dX2_coveredPans_23 (by decide) ?_
        refine lv_iload_n hx hb dX2_coveredPans_24 rfl (lv_at hl 2 rfl) ?_
        refine lv_ishl hx hb dX2_coveredPans_25 ?_
        refine lv_goto (tgt := 30) hx hb dX2_coveredPans_26 (by decide) ?_
        refine lv_iadd hx hb dX2_coveredPans_30 ?_
        refine lw_topi (fun x4 ex4 => ?_)
        refine lv_istore_n (lv' := [(1, .int x4), (0, .ref (a (1 + r))), (2, .int (nI k))]) hx hb dX2_coveredPans_31 rfl hl (by decide) rfl (fun ls hl => ?_)
        refine lv_iinc (v := nI (k + 1)) (lv' := [(2, .int (nI (k + 1))), (1, .int x4), (0, .ref (a (1 + r)))]) hx hb dX2_coveredPans_32 hl (k := 2) rfl (nI_1 k) (by decide) rfl (fun ls hl => ?_)
        refine lv_goto (tgt := 4) hx hb dX2_coveredPans_35 (by decide) ?_
        have hstep : τ = τ := by
          subst ex4; rfl
        have hval0 : f_X2_csum r τ (n + 1) k v = f_X2_csum r τ n (k + 1) x4 := by
          subst ex4; show f_X2_csum r τ n (k + 1) (v + f_gbit (τ (5 + 8 * r + k) 10) k) = _; unfold f_gbit; rw [if_neg c3] <;> rfl
        exact ih (k + 1) τ x4 H locs ls (by omega) hw (lv_sub hl [2, 1, 0] rfl) (fun H locs ls hw hl => kont H locs ls (by rw [hstep]; exact hw) (by rw [hval0]; exact hl))
  refine loop _ 8 0 σ 0 _ _ _ (by decide) hw (lv_sub hl [2, 1, 0] rfl) (fun H locs ls hw hl => ?_)
  obtain ⟨τ5, eτ5⟩ : ∃ zz : sS, σ = zz := ⟨_, rfl⟩
  rw [eτ5] at hw
  refine lv_iload_n hx hb dX2_coveredPans_38 rfl (lv_at hl 0 rfl) ?_
  exact se_i hx hb hr hlocks hw (by subst eτ5; exact rfl) (by subst eτ5; rfl) dX2_coveredPans_39
theorem mX2_saltFallenInPans_0 : (Cond.fieldLink RX2 11 "SaltRow$Row" "ponds" "[LSaltRow$Pond;") ∈ wsX2_saltFallenInPans := by decide +kernel
theorem iX2_saltFallenInPans_X2 : ∀ w ∈ wsX20, w ∈ wsX2_saltFallenInPans := by decide +kernel
theorem mX2_saltFallenInPans_2 : (Cond.fieldLink RX2 95 "SaltRow$Pond" "saltFallen" "I") ∈ wsX2_saltFallenInPans := by decide +kernel
theorem iX2_saltFallenInPans_X1 : ∀ w ∈ wsX10, w ∈ wsX2_saltFallenInPans := by decide +kernel
set_option maxHeartbeats 4000000 in
set_option maxRecDepth 100000 in
theorem zX2_saltFallenInPans (l : Launch) (D : va_G) (a : Nat → Nat) (cs : Nat → ClassId) (σ : sS) (r : Nat) (hr2 : r < 2)  : sMi l yX2_saltFallenInPans wsX2_saltFallenInPans ({ frames := 0, cells := 0, slots := 0, locals := 0 }) D a cs [.ref (a (1 + r))] σ (f_X2_saltFallenInPans σ r) σ := by
  intro sz
  refine Met.ofW (cc := cX2_saltFallenInPans) (maxL := 3) (ret := (some .int)) (by decide) rfl ?_
  intro p e s m args below meth c s₁ B hml hv
  obtain ⟨rfl, hsz, hv2⟩ := hv
  have hv3 : sB D a cs σ sz s := ⟨hsz, hv2⟩
  subst hsz
  have hw := sH_start hv3
  obtain ⟨-, -, hK, -, hN⟩ := hv3
  have hx := B.exec
  have hb := B.bytes
  have hr := B.returns
  have hts := atoms_spec (ws := wsX2_saltFallenInPans) B.pre
  have hown : s.vm.findClass RX2 = some m.cls := findClass_of_methodNamed B.named
  have hlocks := B.notSynchronized
  have hA : ∀ q : Nat, s.heap.size ≤ q → sA a s.heap.size q := sA_new
  have hl := lv_entry ([.ref (a (1 + r))]) (n := 3) (Nat.le_of_ble_eq_true rfl)
  rw [lg_entry_eq]
  generalize (lg_sl ([.ref (a (1 + r))]) ++ List.replicate (3 - (lg_sl ([.ref (a (1 + r))])).length) Slot.unset).toArray = ls at hl ⊢
  have hl : lv_has ls 3 [(0, .ref (a (1 + r)))] := hl
  refine lv_iconst (v := 0) hx hb dX2_saltFallenInPans_0 (by decide) ?_
  refine lv_istore_n (lv' := [(1, .int 0), (0, .ref (a (1 + r)))]) hx hb dX2_saltFallenInPans_1 rfl hl (by decide) rfl (fun ls hl => ?_)
  refine lv_iconst (v := 5) hx hb dX2_saltFallenInPans_2 (by decide) ?_
  refine lv_istore_n (lv' := [(2, .int 5), (1, .int 0), (0, .ref (a (1 + r)))]) hx hb dX2_saltFallenInPans_3 rfl hl (by decide) rfl (fun ls hl => ?_)
  have loop : ∀ (Q : State → Prop) (n : Nat) (k : Nat) (τ : sS) (v : Int32) (H : Heap) (locs : List Loc) (ls : Array Slot), k + n = 8 → sH D a cs (sA a s.heap.size) s.heap τ H locs → lv_has ls 3 [(0, .ref (a (1 + r))), (1, .int v), (2, .int (nI k))] → (∀ (H : Heap) (locs : List Loc) (ls : Array Slot), sH D a cs (sA a s.heap.size) s.heap (τ) H locs → lv_has ls 3 [(1, .int (f_X2_fsum r τ n k v))] → W p l e { frames := 0, cells := 0, slots := 0, locals := 0 } s m #[Value.ref (a (1 + r))] below meth c H locs 0 0 Q (F0 m 28 ls [])) → W p l e { frames := 0, cells := 0, slots := 0, locals := 0 } s m #[Value.ref (a (1 + r))] below meth c H locs 0 0 Q (F0 m 4 ls []) := by
    intro Q n
    induction n with
    | zero =>
      intro k τ v H locs ls hkn hw hl kont
      refine lv_iload_n hx hb dX2_saltFallenInPans_4 rfl (lv_at hl 2 rfl) ?_
      refine lv_bipush (v := 8) hx hb dX2_saltFallenInPans_5 (by decide) ?_
      refine lv_icmp_ge (tgt := 28) hx hb dX2_saltFallenInPans_7 (by decide) (fun c1 => ?_) (fun c1 => absurd (by rw [show k = 8 by omega]; decide) c1)
      exact kont H locs ls hw (lv_sub hl [1] rfl)
    | succ n ih =>
      intro k τ v H locs ls hkn hw hl kont
      refine lv_iload_n hx hb dX2_saltFallenInPans_4 rfl (lv_at hl 2 rfl) ?_
      refine lv_bipush (v := 8) hx hb dX2_saltFallenInPans_5 (by decide) ?_
      refine lv_icmp_ge (tgt := 28) hx hb dX2_saltFallenInPans_7 (by decide) (fun c2 => absurd c2 (nI_ge (a := k) (b := 8) (by omega) (by decide))) (fun c2 => ?_)
      refine lv_iload_n hx hb dX2_saltFallenInPans_10 rfl (lv_at hl 1 rfl) ?_
      refine lv_aload_n hx hb dX2_saltFallenInPans_11 rfl (lv_at hl 0 rfl) ?_
      refine sg_rq (r := r) hx hb hts iX2_saltFallenInPans_X2 hown hK hw hr2 (hts _ mX2_saltFallenInPans_0) dX2_saltFallenInPans_12 ?_
      refine lv_iload_n hx hb dX2_saltFallenInPans_15 rfl (lv_at hl 2 rfl) ?_
      refine sg_q (r := r) (k := k) hx hb hK hw hr2 (by omega) rfl dX2_saltFallenInPans_16 ?_
      refine sg_p hx hb hts iX2_saltFallenInPans_X1 hown hK hw (by omega) 8 (by decide) (hts _ mX2_saltFallenInPans_2) dX2_saltFallenInPans_17 ?_
      refine lv_iadd hx hb dX2_saltFallenInPans_20 ?_
      refine lw_topi (fun x3 ex3 => ?_)
      refine lv_istore_n (lv' := [(1, .int x3), (0, .ref (a (1 + r))), (2, .int (nI k))]) hx hb dX2_saltFallenInPans_21 rfl hl (by decide) rfl (fun ls hl => ?_)
      refine lv_iinc (v := nI (k + 1)) (lv' := [(2, .int (nI (k + 1))), (1, .int x3), (0, .ref (a (1 + r)))]) hx hb dX2_saltFallenInPans_22 hl (k := 2) rfl (nI_1 k) (by decide) rfl (fun ls hl => ?_)
      refine lv_goto (tgt := 4) hx hb dX2_saltFallenInPans_25 (by decide) ?_
      have hstep : τ = τ := by
        subst ex3; rfl
      have hval0 : f_X2_fsum r τ (n + 1) k v = f_X2_fsum r τ n (k + 1) x3 := by
        subst ex3; rfl
      exact ih (k + 1) τ x3 H locs ls (by omega) hw (lv_sub hl [2, 1, 0] rfl) (fun H locs ls hw hl => kont H locs ls (by rw [hstep]; exact hw) (by rw [hval0]; exact hl))
  refine loop _ 3 5 σ 0 _ _ _ (by decide) hw (lv_sub hl [2, 1, 0] rfl) (fun H locs ls hw hl => ?_)
  obtain ⟨τ4, eτ4⟩ : ∃ zz : sS, σ = zz := ⟨_, rfl⟩
  rw [eτ4] at hw
  refine lv_iload_n hx hb dX2_saltFallenInPans_28 rfl (lv_at hl 0 rfl) ?_
  exact se_i hx hb hr hlocks hw (by subst eτ4; exact rfl) (by subst eτ4; rfl) dX2_saltFallenInPans_29
theorem mX2_saltInPans_0 : (Cond.fieldLink RX2 11 "SaltRow$Row" "ponds" "[LSaltRow$Pond;") ∈ wsX2_saltInPans := by decide +kernel
theorem iX2_saltInPans_X2 : ∀ w ∈ wsX20, w ∈ wsX2_saltInPans := by decide +kernel
theorem mX2_saltInPans_2 : (Cond.fieldLink RX2 98 "SaltRow$Pond" "salt" "I") ∈ wsX2_saltInPans := by decide +kernel
theorem iX2_saltInPans_X1 : ∀ w ∈ wsX10, w ∈ wsX2_saltInPans := by decide +kernel
theorem mX2_saltInPans_4 : (Cond.fieldLink RX2 101 "SaltRow$Pond" "crustSalt" "I") ∈ wsX2_saltInPans := by decide +kernel
set_option maxHeartbeats 4000000 in
set_option maxRecDepth 100000 in
theorem zX2_saltInPans (l : Launch) (D : va_G) (a : Nat → Nat) (cs : Nat → ClassId) (σ : sS) (r : Nat) (hr2 : r < 2)  : sMi l yX2_saltInPans wsX2_saltInPans ({ frames := 0, cells := 0, slots := 0, locals := 0 }) D a cs [.ref (a (1 + r))] σ (f_X2_saltInPans σ r) σ := by
  intro sz
  refine Met.ofW (cc := cX2_saltInPans) (maxL := 3) (ret := (some .int)) (by decide) rfl ?_
  intro p e s m args below meth c s₁ B hml hv
  obtain ⟨rfl, hsz, hv2⟩ := hv
  have hv3 : sB D a cs σ sz s := ⟨hsz, hv2⟩
  subst hsz
  have hw := sH_start hv3
  obtain ⟨-, -, hK, -, hN⟩ := hv3
  have hx := B.exec
  have hb := B.bytes
  have hr := B.returns
  have hts := atoms_spec (ws := wsX2_saltInPans) B.pre
  have hown : s.vm.findClass RX2 = some m.cls := findClass_of_methodNamed B.named
  have hlocks := B.notSynchronized
  have hA : ∀ q : Nat, s.heap.size ≤ q → sA a s.heap.size q := sA_new
  have hl := lv_entry ([.ref (a (1 + r))]) (n := 3) (Nat.le_of_ble_eq_true rfl)
  rw [lg_entry_eq]
  generalize (lg_sl ([.ref (a (1 + r))]) ++ List.replicate (3 - (lg_sl ([.ref (a (1 + r))])).length) Slot.unset).toArray = ls at hl ⊢
  have hl : lv_has ls 3 [(0, .ref (a (1 + r)))] := hl
  refine lv_iconst (v := 0) hx hb dX2_saltInPans_0 (by decide) ?_
  refine lv_istore_n (lv' := [(1, .int 0), (0, .ref (a (1 + r)))]) hx hb dX2_saltInPans_1 rfl hl (by decide) rfl (fun ls hl => ?_)
  refine lv_iconst (v := 5) hx hb dX2_saltInPans_2 (by decide) ?_
  refine lv_istore_n (lv' := [(2, .int 5), (1, .int 0), (0, .ref (a (1 + r)))]) hx hb dX2_saltInPans_3 rfl hl (by decide) rfl (fun ls hl => ?_)
  have loop : ∀ (Q : State → Prop) (n : Nat) (k : Nat) (τ : sS) (v : Int32) (H : Heap) (locs : List Loc) (ls : Array Slot), k + n = 8 → sH D a cs (sA a s.heap.size) s.heap τ H locs → lv_has ls 3 [(0, .ref (a (1 + r))), (1, .int v), (2, .int (nI k))] → (∀ (H : Heap) (locs : List Loc) (ls : Array Slot), sH D a cs (sA a s.heap.size) s.heap (τ) H locs → lv_has ls 3 [(1, .int (f_X2_ssum r τ n k v))] → W p l e { frames := 0, cells := 0, slots := 0, locals := 0 } s m #[Value.ref (a (1 + r))] below meth c H locs 0 0 Q (F0 m 38 ls [])) → W p l e { frames := 0, cells := 0, slots := 0, locals := 0 } s m #[Value.ref (a (1 + r))] below meth c H locs 0 0 Q (F0 m 4 ls []) := by
    intro Q n
    induction n with
    | zero =>
      intro k τ v H locs ls hkn hw hl kont
      refine lv_iload_n hx hb dX2_saltInPans_4 rfl (lv_at hl 2 rfl) ?_
      refine lv_bipush (v := 8) hx hb dX2_saltInPans_5 (by decide) ?_
      refine lv_icmp_ge (tgt := 38) hx hb dX2_saltInPans_7 (by decide) (fun c1 => ?_) (fun c1 => absurd (by rw [show k = 8 by omega]; decide) c1)
      exact kont H locs ls hw (lv_sub hl [1] rfl)
    | succ n ih =>
      intro k τ v H locs ls hkn hw hl kont
      refine lv_iload_n hx hb dX2_saltInPans_4 rfl (lv_at hl 2 rfl) ?_
      refine lv_bipush (v := 8) hx hb dX2_saltInPans_5 (by decide) ?_
      refine lv_icmp_ge (tgt := 38) hx hb dX2_saltInPans_7 (by decide) (fun c2 => absurd c2 (nI_ge (a := k) (b := 8) (by omega) (by decide))) (fun c2 => ?_)
      refine lv_iload_n hx hb dX2_saltInPans_10 rfl (lv_at hl 1 rfl) ?_
      refine lv_aload_n hx hb dX2_saltInPans_11 rfl (lv_at hl 0 rfl) ?_
      refine sg_rq (r := r) hx hb hts iX2_saltInPans_X2 hown hK hw hr2 (hts _ mX2_saltInPans_0) dX2_saltInPans_12 ?_
      refine lv_iload_n hx hb dX2_saltInPans_15 rfl (lv_at hl 2 rfl) ?_
      refine sg_q (r := r) (k := k) hx hb hK hw hr2 (by omega) rfl dX2_saltInPans_16 ?_
      refine sg_p hx hb hts iX2_saltInPans_X1 hown hK hw (by omega) 2 (by decide) (hts _ mX2_saltInPans_2) dX2_saltInPans_17 ?_
      refine lv_aload_n hx hb dX2_saltInPans_20 rfl (lv_at hl 0 rfl) ?_
      refine sg_rq (r := r) hx hb hts iX2_saltInPans_X2 hown hK hw hr2 (hts _ mX2_saltInPans_0) dX2_saltInPans_21 ?_
      refine lv_iload_n hx hb dX2_saltInPans_24 rfl (lv_at hl 2 rfl) ?_
      refine sg_q (r := r) (k := k) hx hb hK hw hr2 (by omega) rfl dX2_saltInPans_25 ?_
      refine sg_p hx hb hts iX2_saltInPans_X1 hown hK hw (by omega) 6 (by decide) (hts _ mX2_saltInPans_4) dX2_saltInPans_26 ?_
      refine lv_iadd hx hb dX2_saltInPans_29 ?_
      refine lv_iadd hx hb dX2_saltInPans_30 ?_
      refine lw_topi (fun x3 ex3 => ?_)
      refine lv_istore_n (lv' := [(1, .int x3), (0, .ref (a (1 + r))), (2, .int (nI k))]) hx hb dX2_saltInPans_31 rfl hl (by decide) rfl (fun ls hl => ?_)
      refine lv_iinc (v := nI (k + 1)) (lv' := [(2, .int (nI (k + 1))), (1, .int x3), (0, .ref (a (1 + r)))]) hx hb dX2_saltInPans_32 hl (k := 2) rfl (nI_1 k) (by decide) rfl (fun ls hl => ?_)
      refine lv_goto (tgt := 4) hx hb dX2_saltInPans_35 (by decide) ?_
      have hstep : τ = τ := by
        subst ex3; rfl
      have hval0 : f_X2_ssum r τ (n + 1) k v = f_X2_ssum r τ n (k + 1) x3 := by
        subst ex3; rfl
      exact ih (k + 1) τ x3 H locs ls (by omega) hw (lv_sub hl [2, 1, 0] rfl) (fun H locs ls hw hl => kont H locs ls (by rw [hstep]; exact hw) (by rw [hval0]; exact hl))
  refine loop _ 3 5 σ 0 _ _ _ (by decide) hw (lv_sub hl [2, 1, 0] rfl) (fun H locs ls hw hl => ?_)
  obtain ⟨τ4, eτ4⟩ : ∃ zz : sS, σ = zz := ⟨_, rfl⟩
  rw [eτ4] at hw
  refine lv_iload_n hx hb dX2_saltInPans_38 rfl (lv_at hl 0 rfl) ?_
  exact se_i hx hb hr hlocks hw (by subst eτ4; exact rfl) (by subst eτ4; rfl) dX2_saltInPans_39
end
section
theorem mX0_read_0_0 : (Cond.fieldLink RX0 15 "SaltRow$Family" "salt" "I") ∈ wsX0_read := by decide +kernel
theorem iX0_read_X0_0 : ∀ w ∈ wsX00, w ∈ wsX0_read := by decide +kernel
set_option maxHeartbeats 4000000 in
set_option maxRecDepth 100000 in
theorem zX0_read_0 (l : Launch) (D : va_G) (a : Nat → Nat) (cs : Nat → ClassId) (σ : sS) (j : Nat) (hj6 : j < 6) : sMi l yX0_read wsX0_read ({ frames := 2, cells := 0, slots := 0, locals := 46 }) D a cs [.ref (a (22 + j)), .int (nI 0)] σ (f_X0_read (σ (22 + j)) 0) σ := by
  intro sz
  refine Met.ofW (cc := cX0_read) (maxL := 2) (ret := (some .int)) (by decide) rfl ?_
  intro p e s m args below meth c s₁ B hml hv
  obtain ⟨rfl, hsz, hv2⟩ := hv
  have hv3 : sB D a cs σ sz s := ⟨hsz, hv2⟩
  subst hsz
  have hw := sH_start hv3
  obtain ⟨-, -, hK, -, hN⟩ := hv3
  have hx := B.exec
  have hb := B.bytes
  have hr := B.returns
  have hts := atoms_spec (ws := wsX0_read) B.pre
  have hown : s.vm.findClass RX0 = some m.cls := findClass_of_methodNamed B.named
  have hlocks := B.notSynchronized
  have hA : ∀ q : Nat, s.heap.size ≤ q → sA a s.heap.size q := sA_new
  have hl := lv_entry ([.ref (a (22 + j)), .int (nI 0)]) (n := 2) (Nat.le_of_ble_eq_true rfl)
  rw [lg_entry_eq]
  generalize (lg_sl ([.ref (a (22 + j)), .int (nI 0)]) ++ List.replicate (2 - (lg_sl ([.ref (a (22 + j)), .int (nI 0)])).length) Slot.unset).toArray = ls at hl ⊢
  have hl : lv_has ls 2 [(0, .ref (a (22 + j))), (1, .int (nI 0))] := hl
  refine lv_iload_n hx hb dX0_read_0 rfl (lv_at hl 1 rfl) ?_
  refine lv_tableIn (tgt := 36) hx hb dX0_read_1 (by decide) (by decide) (off := 35) (by decide +kernel) (by decide) ?_
  refine lv_aload_n hx hb dX0_read_36 rfl (lv_at hl 0 rfl) ?_
  refine sg_f (j := j) hx hb hts iX0_read_X0_0 hown hK hw (by omega) 1 (by decide) (hts _ mX0_read_0_0) dX0_read_37 ?_
  exact se_i hx hb hr hlocks hw (by rfl) (by rfl) dX0_read_40
theorem mX0_read_0_1 : (Cond.fieldLink RX0 19 "SaltRow$Family" "dirt" "I") ∈ wsX0_read := by decide +kernel
theorem iX0_read_X0_1 : ∀ w ∈ wsX00, w ∈ wsX0_read := by decide +kernel
set_option maxHeartbeats 4000000 in
set_option maxRecDepth 100000 in
theorem zX0_read_1 (l : Launch) (D : va_G) (a : Nat → Nat) (cs : Nat → ClassId) (σ : sS) (j : Nat) (hj6 : j < 6) : sMi l yX0_read wsX0_read ({ frames := 2, cells := 0, slots := 0, locals := 46 }) D a cs [.ref (a (22 + j)), .int (nI 1)] σ (f_X0_read (σ (22 + j)) 1) σ := by
  intro sz
  refine Met.ofW (cc := cX0_read) (maxL := 2) (ret := (some .int)) (by decide) rfl ?_
  intro p e s m args below meth c s₁ B hml hv
  obtain ⟨rfl, hsz, hv2⟩ := hv
  have hv3 : sB D a cs σ sz s := ⟨hsz, hv2⟩
  subst hsz
  have hw := sH_start hv3
  obtain ⟨-, -, hK, -, hN⟩ := hv3
  have hx := B.exec
  have hb := B.bytes
  have hr := B.returns
  have hts := atoms_spec (ws := wsX0_read) B.pre
  have hown : s.vm.findClass RX0 = some m.cls := findClass_of_methodNamed B.named
  have hlocks := B.notSynchronized
  have hA : ∀ q : Nat, s.heap.size ≤ q → sA a s.heap.size q := sA_new
  have hl := lv_entry ([.ref (a (22 + j)), .int (nI 1)]) (n := 2) (Nat.le_of_ble_eq_true rfl)
  rw [lg_entry_eq]
  generalize (lg_sl ([.ref (a (22 + j)), .int (nI 1)]) ++ List.replicate (2 - (lg_sl ([.ref (a (22 + j)), .int (nI 1)])).length) Slot.unset).toArray = ls at hl ⊢
  have hl : lv_has ls 2 [(0, .ref (a (22 + j))), (1, .int (nI 1))] := hl
  refine lv_iload_n hx hb dX0_read_0 rfl (lv_at hl 1 rfl) ?_
  refine lv_tableIn (tgt := 41) hx hb dX0_read_1 (by decide) (by decide) (off := 40) (by decide +kernel) (by decide) ?_
  refine lv_aload_n hx hb dX0_read_41 rfl (lv_at hl 0 rfl) ?_
  refine sg_f (j := j) hx hb hts iX0_read_X0_1 hown hK hw (by omega) 2 (by decide) (hts _ mX0_read_0_1) dX0_read_42 ?_
  exact se_i hx hb hr hlocks hw (by rfl) (by rfl) dX0_read_45
theorem mX0_read_0_2 : (Cond.fieldLink RX0 15 "SaltRow$Family" "salt" "I") ∈ wsX0_read := by decide +kernel
theorem iX0_read_X0_2 : ∀ w ∈ wsX00, w ∈ wsX0_read := by decide +kernel
theorem mX0_read_2_2 : (Cond.fieldLink RX0 19 "SaltRow$Family" "dirt" "I") ∈ wsX0_read := by decide +kernel
theorem mX0_read_3_2 : (Cond.initialized RX3) ∈ wsX0_read := by decide +kernel
theorem mX0_read_4_2 : (Cond.static yX3_purity) ∈ wsX0_read := by decide +kernel
set_option maxHeartbeats 4000000 in
set_option maxRecDepth 100000 in
theorem zX0_read_2 (l : Launch) (D : va_G) (a : Nat → Nat) (cs : Nat → ClassId) (σ : sS) (j : Nat) (hj6 : j < 6) : sMi l yX0_read wsX0_read ({ frames := 2, cells := 0, slots := 0, locals := 46 }) D a cs [.ref (a (22 + j)), .int (nI 2)] σ (f_X0_read (σ (22 + j)) 2) σ := by
  intro sz
  refine Met.ofW (cc := cX0_read) (maxL := 2) (ret := (some .int)) (by decide) rfl ?_
  intro p e s m args below meth c s₁ B hml hv
  obtain ⟨rfl, hsz, hv2⟩ := hv
  have hv3 : sB D a cs σ sz s := ⟨hsz, hv2⟩
  subst hsz
  have hw := sH_start hv3
  obtain ⟨-, -, hK, -, hN⟩ := hv3
  have hx := B.exec
  have hb := B.bytes
  have hr := B.returns
  have hts := atoms_spec (ws := wsX0_read) B.pre
  have hown : s.vm.findClass RX0 = some m.cls := findClass_of_methodNamed B.named
  have hlocks := B.notSynchronized
  have hA : ∀ q : Nat, s.heap.size ≤ q → sA a s.heap.size q := sA_new
  have hl := lv_entry ([.ref (a (22 + j)), .int (nI 2)]) (n := 2) (Nat.le_of_ble_eq_true rfl)
  rw [lg_entry_eq]
  generalize (lg_sl ([.ref (a (22 + j)), .int (nI 2)]) ++ List.replicate (2 - (lg_sl ([.ref (a (22 + j)), .int (nI 2)])).length) Slot.unset).toArray = ls at hl ⊢
  have hl : lv_has ls 2 [(0, .ref (a (22 + j))), (1, .int (nI 2))] := hl
  refine lv_iload_n hx hb dX0_read_0 rfl (lv_at hl 1 rfl) ?_
  refine lv_tableIn (tgt := 46) hx hb dX0_read_1 (by decide) (by decide) (off := 45) (by decide +kernel) (by decide) ?_
  refine lv_aload_n hx hb dX0_read_46 rfl (lv_at hl 0 rfl) ?_
  refine sg_f (j := j) hx hb hts iX0_read_X0_2 hown hK hw (by omega) 1 (by decide) (hts _ mX0_read_0_2) dX0_read_47 ?_
  refine lv_aload_n hx hb dX0_read_50 rfl (lv_at hl 0 rfl) ?_
  refine sg_f (j := j) hx hb hts iX0_read_X0_2 hown hK hw (by omega) 2 (by decide) (hts _ mX0_read_2_2) dX0_read_51 ?_
  refine sc_i (sr_N (As := [.int (σ (22 + j) 1), .int (σ (22 + j) 2)]) (rest := []) ⟨hx, hb, hml, hown, hts⟩ (zX3_purity l D a cs _ (σ (22 + j) 1) (σ (22 + j) 2) _) (va_cnB 2 hts gX0_read_X3_purity_n22 rfl rfl rfl (sN_X0_X3_purity hN) (hts _ mX0_read_3_2) (by decide +kernel) ⟨Nat.le_of_ble_eq_true rfl, Nat.le_of_ble_eq_true rfl⟩) (hts _ mX0_read_4_2) hK hN hw rfl hl.1 (Nat.le_of_ble_eq_true rfl) dX0_read_54 ⟨Nat.le_of_ble_eq_true rfl, Nat.le_of_ble_eq_true rfl⟩) hw hA (fun H locs hw => ?_)
  exact se_i hx hb hr hlocks hw (by rfl) (by rfl) dX0_read_57
theorem mX0_read_0_3 : (Cond.fieldLink RX0 26 "SaltRow$Family" "coins" "I") ∈ wsX0_read := by decide +kernel
theorem iX0_read_X0_3 : ∀ w ∈ wsX00, w ∈ wsX0_read := by decide +kernel
set_option maxHeartbeats 4000000 in
set_option maxRecDepth 100000 in
theorem zX0_read_3 (l : Launch) (D : va_G) (a : Nat → Nat) (cs : Nat → ClassId) (σ : sS) (j : Nat) (hj6 : j < 6) : sMi l yX0_read wsX0_read ({ frames := 2, cells := 0, slots := 0, locals := 46 }) D a cs [.ref (a (22 + j)), .int (nI 3)] σ (f_X0_read (σ (22 + j)) 3) σ := by
  intro sz
  refine Met.ofW (cc := cX0_read) (maxL := 2) (ret := (some .int)) (by decide) rfl ?_
  intro p e s m args below meth c s₁ B hml hv
  obtain ⟨rfl, hsz, hv2⟩ := hv
  have hv3 : sB D a cs σ sz s := ⟨hsz, hv2⟩
  subst hsz
  have hw := sH_start hv3
  obtain ⟨-, -, hK, -, hN⟩ := hv3
  have hx := B.exec
  have hb := B.bytes
  have hr := B.returns
  have hts := atoms_spec (ws := wsX0_read) B.pre
  have hown : s.vm.findClass RX0 = some m.cls := findClass_of_methodNamed B.named
  have hlocks := B.notSynchronized
  have hA : ∀ q : Nat, s.heap.size ≤ q → sA a s.heap.size q := sA_new
  have hl := lv_entry ([.ref (a (22 + j)), .int (nI 3)]) (n := 2) (Nat.le_of_ble_eq_true rfl)
  rw [lg_entry_eq]
  generalize (lg_sl ([.ref (a (22 + j)), .int (nI 3)]) ++ List.replicate (2 - (lg_sl ([.ref (a (22 + j)), .int (nI 3)])).length) Slot.unset).toArray = ls at hl ⊢
  have hl : lv_has ls 2 [(0, .ref (a (22 + j))), (1, .int (nI 3))] := hl
  refine lv_iload_n hx hb dX0_read_0 rfl (lv_at hl 1 rfl) ?_
  refine lv_tableIn (tgt := 58) hx hb dX0_read_1 (by decide) (by decide) (off := 57) (by decide +kernel) (by decide) ?_
  refine lv_aload_n hx hb dX0_read_58 rfl (lv_at hl 0 rfl) ?_
  refine sg_f (j := j) hx hb hts iX0_read_X0_3 hown hK hw (by omega) 3 (by decide) (hts _ mX0_read_0_3) dX0_read_59 ?_
  exact se_i hx hb hr hlocks hw (by rfl) (by rfl) dX0_read_62
theorem mX0_read_0_4 : (Cond.fieldLink RX0 29 "SaltRow$Family" "saltGot" "I") ∈ wsX0_read := by decide +kernel
theorem iX0_read_X0_4 : ∀ w ∈ wsX00, w ∈ wsX0_read := by decide +kernel
set_option maxHeartbeats 4000000 in
set_option maxRecDepth 100000 in
theorem zX0_read_4 (l : Launch) (D : va_G) (a : Nat → Nat) (cs : Nat → ClassId) (σ : sS) (j : Nat) (hj6 : j < 6) : sMi l yX0_read wsX0_read ({ frames := 2, cells := 0, slots := 0, locals := 46 }) D a cs [.ref (a (22 + j)), .int (nI 4)] σ (f_X0_read (σ (22 + j)) 4) σ := by
  intro sz
  refine Met.ofW (cc := cX0_read) (maxL := 2) (ret := (some .int)) (by decide) rfl ?_
  intro p e s m args below meth c s₁ B hml hv
  obtain ⟨rfl, hsz, hv2⟩ := hv
  have hv3 : sB D a cs σ sz s := ⟨hsz, hv2⟩
  subst hsz
  have hw := sH_start hv3
  obtain ⟨-, -, hK, -, hN⟩ := hv3
  have hx := B.exec
  have hb := B.bytes
  have hr := B.returns
  have hts := atoms_spec (ws := wsX0_read) B.pre
  have hown : s.vm.findClass RX0 = some m.cls := findClass_of_methodNamed B.named
  have hlocks := B.notSynchronized
  have hA : ∀ q : Nat, s.heap.size ≤ q → sA a s.heap.size q := sA_new
  have hl := lv_entry ([.ref (a (22 + j)), .int (nI 4)]) (n := 2) (Nat.le_of_ble_eq_true rfl)
  rw [lg_entry_eq]
  generalize (lg_sl ([.ref (a (22 + j)), .int (nI 4)]) ++ List.replicate (2 - (lg_sl ([.ref (a (22 + j)), .int (nI 4)])).length) Slot.unset).toArray = ls at hl ⊢
  have hl : lv_has ls 2 [(0, .ref (a (22 + j))), (1, .int (nI 4))] := hl
  refine lv_iload_n hx hb dX0_read_0 rfl (lv_at hl 1 rfl) ?_
  refine lv_tableIn (tgt := 63) hx hb dX0_read_1 (by decide) (by decide) (off := 62) (by decide +kernel) (by decide) ?_
  refine lv_aload_n hx hb dX0_read_63 rfl (lv_at hl 0 rfl) ?_
  refine sg_f (j := j) hx hb hts iX0_read_X0_4 hown hK hw (by omega) 4 (by decide) (hts _ mX0_read_0_4) dX0_read_64 ?_
  exact se_i hx hb hr hlocks hw (by rfl) (by rfl) dX0_read_67
theorem mX0_read_0_5 : (Cond.fieldLink RX0 32 "SaltRow$Family" "saltSold" "I") ∈ wsX0_read := by decide +kernel
theorem iX0_read_X0_5 : ∀ w ∈ wsX00, w ∈ wsX0_read := by decide +kernel
set_option maxHeartbeats 4000000 in
set_option maxRecDepth 100000 in
theorem zX0_read_5 (l : Launch) (D : va_G) (a : Nat → Nat) (cs : Nat → ClassId) (σ : sS) (j : Nat) (hj6 : j < 6) : sMi l yX0_read wsX0_read ({ frames := 2, cells := 0, slots := 0, locals := 46 }) D a cs [.ref (a (22 + j)), .int (nI 5)] σ (f_X0_read (σ (22 + j)) 5) σ := by
  intro sz
  refine Met.ofW (cc := cX0_read) (maxL := 2) (ret := (some .int)) (by decide) rfl ?_
  intro p e s m args below meth c s₁ B hml hv
  obtain ⟨rfl, hsz, hv2⟩ := hv
  have hv3 : sB D a cs σ sz s := ⟨hsz, hv2⟩
  subst hsz
  have hw := sH_start hv3
  obtain ⟨-, -, hK, -, hN⟩ := hv3
  have hx := B.exec
  have hb := B.bytes
  have hr := B.returns
  have hts := atoms_spec (ws := wsX0_read) B.pre
  have hown : s.vm.findClass RX0 = some m.cls := findClass_of_methodNamed B.named
  have hlocks := B.notSynchronized
  have hA : ∀ q : Nat, s.heap.size ≤ q → sA a s.heap.size q := sA_new
  have hl := lv_entry ([.ref (a (22 + j)), .int (nI 5)]) (n := 2) (Nat.le_of_ble_eq_true rfl)
  rw [lg_entry_eq]
  generalize (lg_sl ([.ref (a (22 + j)), .int (nI 5)]) ++ List.replicate (2 - (lg_sl ([.ref (a (22 + j)), .int (nI 5)])).length) Slot.unset).toArray = ls at hl ⊢
  have hl : lv_has ls 2 [(0, .ref (a (22 + j))), (1, .int (nI 5))] := hl
  refine lv_iload_n hx hb dX0_read_0 rfl (lv_at hl 1 rfl) ?_
  refine lv_tableOut (tgt := 68) hx hb dX0_read_1 (by decide) (by decide) ?_
  refine lv_aload_n hx hb dX0_read_68 rfl (lv_at hl 0 rfl) ?_
  refine sg_f (j := j) hx hb hts iX0_read_X0_5 hown hK hw (by omega) 5 (by decide) (hts _ mX0_read_0_5) dX0_read_69 ?_
  exact se_i hx hb hr hlocks hw (by rfl) (by rfl) dX0_read_72
theorem mX0_getSalt_0 : (Cond.fieldLink RX0 15 "SaltRow$Family" "salt" "I") ∈ wsX0_getSalt := by decide +kernel
theorem iX0_getSalt_X0 : ∀ w ∈ wsX00, w ∈ wsX0_getSalt := by decide +kernel
theorem mX0_getSalt_2 : (Cond.fieldLink RX0 19 "SaltRow$Family" "dirt" "I") ∈ wsX0_getSalt := by decide +kernel
theorem mX0_getSalt_3 : (Cond.fieldLink RX0 29 "SaltRow$Family" "saltGot" "I") ∈ wsX0_getSalt := by decide +kernel
set_option maxHeartbeats 4000000 in
set_option maxRecDepth 100000 in
theorem zX0_getSalt (l : Launch) (D : va_G) (a : Nat → Nat) (cs : Nat → ClassId) (σ : sS) (j : Nat) (hj6 : j < 6) (x : Int32) (y : Int32) : sMv l yX0_getSalt wsX0_getSalt ({ frames := 0, cells := 0, slots := 0, locals := 0 }) D a cs [.ref (a (22 + j)), .int x, .int y] σ (f_X0_getSalt σ j x y) := by
  intro sz
  refine Met.ofW (cc := cX0_getSalt) (maxL := 3) (ret := none) (by decide) rfl ?_
  intro p e s m args below meth c s₁ B hml hv
  obtain ⟨rfl, hsz, hv2⟩ := hv
  have hv3 : sB D a cs σ sz s := ⟨hsz, hv2⟩
  subst hsz
  have hw := sH_start hv3
  obtain ⟨-, -, hK, -, hN⟩ := hv3
  have hx := B.exec
  have hb := B.bytes
  have hr := B.returns
  have hts := atoms_spec (ws := wsX0_getSalt) B.pre
  have hown : s.vm.findClass RX0 = some m.cls := findClass_of_methodNamed B.named
  have hlocks := B.notSynchronized
  have hA : ∀ q : Nat, s.heap.size ≤ q → sA a s.heap.size q := sA_new
  have hl := lv_entry ([.ref (a (22 + j)), .int x, .int y]) (n := 3) (Nat.le_of_ble_eq_true rfl)
  rw [lg_entry_eq]
  generalize (lg_sl ([.ref (a (22 + j)), .int x, .int y]) ++ List.replicate (3 - (lg_sl ([.ref (a (22 + j)), .int x, .int y])).length) Slot.unset).toArray = ls at hl ⊢
  have hl : lv_has ls 3 [(0, .ref (a (22 + j))), (1, .int x), (2, .int y)] := hl
  refine lv_aload_n hx hb dX0_getSalt_0 rfl (lv_at hl 0 rfl) ?_
  refine lv_dup hx hb dX0_getSalt_1 rfl ?_
  refine sg_f (j := j) hx hb hts iX0_getSalt_X0 hown hK hw (by omega) 1 (by decide) (hts _ mX0_getSalt_0) dX0_getSalt_2 ?_
  refine lv_iload_n hx hb dX0_getSalt_5 rfl (lv_at hl 1 rfl) ?_
  refine lv_iadd hx hb dX0_getSalt_6 ?_
  refine sp_f (j := j) hx hb hts iX0_getSalt_X0 hown hK hw (by omega) 1 (by decide) (hts _ mX0_getSalt_0) dX0_getSalt_7 (fun H locs hw => ?_)
  obtain ⟨τ1, eτ1⟩ : ∃ zz : sS, va_up σ (22 + j) (upd (σ (22 + j)) 1 ((σ (22 + j) 1) + x)) = zz := ⟨_, rfl⟩
  rw [eτ1] at hw
  refine lv_aload_n hx hb dX0_getSalt_10 rfl (lv_at hl 0 rfl) ?_
  refine lv_dup hx hb dX0_getSalt_11 rfl ?_
  refine sg_f (j := j) hx hb hts iX0_getSalt_X0 hown hK hw (by omega) 2 (by decide) (hts _ mX0_getSalt_2) dX0_getSalt_12 ?_
  refine lv_iload_n hx hb dX0_getSalt_15 rfl (lv_at hl 2 rfl) ?_
  refine lv_iadd hx hb dX0_getSalt_16 ?_
  refine sp_f (j := j) hx hb hts iX0_getSalt_X0 hown hK hw (by omega) 2 (by decide) (hts _ mX0_getSalt_2) dX0_getSalt_17 (fun H locs hw => ?_)
  obtain ⟨τ2, eτ2⟩ : ∃ zz : sS, va_up τ1 (22 + j) (upd (τ1 (22 + j)) 2 ((τ1 (22 + j) 2) + y)) = zz := ⟨_, rfl⟩
  rw [eτ2] at hw
  refine lv_aload_n hx hb dX0_getSalt_20 rfl (lv_at hl 0 rfl) ?_
  refine lv_dup hx hb dX0_getSalt_21 rfl ?_
  refine sg_f (j := j) hx hb hts iX0_getSalt_X0 hown hK hw (by omega) 4 (by decide) (hts _ mX0_getSalt_3) dX0_getSalt_22 ?_
  refine lv_iload_n hx hb dX0_getSalt_25 rfl (lv_at hl 1 rfl) ?_
  refine lv_iadd hx hb dX0_getSalt_26 ?_
  refine sp_f (j := j) hx hb hts iX0_getSalt_X0 hown hK hw (by omega) 4 (by decide) (hts _ mX0_getSalt_3) dX0_getSalt_27 (fun H locs hw => ?_)
  obtain ⟨τ3, eτ3⟩ : ∃ zz : sS, va_up τ2 (22 + j) (upd (τ2 (22 + j)) 4 ((τ2 (22 + j) 4) + x)) = zz := ⟨_, rfl⟩
  rw [eτ3] at hw
  exact se_v hx hb hr hlocks hw (by subst eτ3 eτ2 eτ1; exact rfl) dX0_getSalt_30
theorem mX2_copyFrom_0 : (Cond.fieldLink RX2 18 "SaltRow$Row" "day" "I") ∈ wsX2_copyFrom := by decide +kernel
theorem iX2_copyFrom_X2 : ∀ w ∈ wsX20, w ∈ wsX2_copyFrom := by decide +kernel
theorem mX2_copyFrom_2 : (Cond.fieldLink RX2 22 "SaltRow$Row" "sun" "I") ∈ wsX2_copyFrom := by decide +kernel
theorem mX2_copyFrom_3 : (Cond.fieldLink RX2 25 "SaltRow$Row" "wind" "I") ∈ wsX2_copyFrom := by decide +kernel
theorem mX2_copyFrom_4 : (Cond.fieldLink RX2 28 "SaltRow$Row" "seaSalt" "I") ∈ wsX2_copyFrom := by decide +kernel
theorem mX2_copyFrom_5 : (Cond.fieldLink RX2 11 "SaltRow$Row" "ponds" "[LSaltRow$Pond;") ∈ wsX2_copyFrom := by decide +kernel
set_option maxHeartbeats 4000000 in
set_option maxRecDepth 100000 in
theorem zX2_copyFrom (l : Launch) (D : va_G) (a : Nat → Nat) (cs : Nat → ClassId) (σ : sS) (hz : sZ σ) : sMv l yX2_copyFrom wsX2_copyFrom ({ frames := 1, cells := 0, slots := 0, locals := 21 }) D a cs [.ref (a 2), .ref (a 1)] σ (f_X2_copyFrom σ) := by
  intro sz
  refine Met.ofW (cc := cX2_copyFrom) (maxL := 3) (ret := none) (by decide) rfl ?_
  intro p e s m args below meth c s₁ B hml hv
  obtain ⟨rfl, hsz, hv2⟩ := hv
  have hv3 : sB D a cs σ sz s := ⟨hsz, hv2⟩
  subst hsz
  have hw := sH_start hv3
  obtain ⟨-, -, hK, -, hN⟩ := hv3
  have hx := B.exec
  have hb := B.bytes
  have hr := B.returns
  have hts := atoms_spec (ws := wsX2_copyFrom) B.pre
  have hown : s.vm.findClass RX2 = some m.cls := findClass_of_methodNamed B.named
  have hlocks := B.notSynchronized
  have hA : ∀ q : Nat, s.heap.size ≤ q → sA a s.heap.size q := sA_new
  have hl := lv_entry ([.ref (a 2), .ref (a 1)]) (n := 3) (Nat.le_of_ble_eq_true rfl)
  rw [lg_entry_eq]
  generalize (lg_sl ([.ref (a 2), .ref (a 1)]) ++ List.replicate (3 - (lg_sl ([.ref (a 2), .ref (a 1)])).length) Slot.unset).toArray = ls at hl ⊢
  have hl : lv_has ls 3 [(0, .ref (a 2)), (1, .ref (a 1))] := hl
  refine lv_aload_n hx hb dX2_copyFrom_0 rfl (lv_at hl 0 rfl) ?_
  refine lv_aload_n hx hb dX2_copyFrom_1 rfl (lv_at hl 1 rfl) ?_
  refine sg_r (r := 0) hx hb hts iX2_copyFrom_X2 hown hK hw (by omega) 1 (by decide) (hts _ mX2_copyFrom_0) dX2_copyFrom_2 ?_
  refine sp_r (r := 1) hx hb hts iX2_copyFrom_X2 hown hK hw (by omega) 1 (by decide) (hts _ mX2_copyFrom_0) dX2_copyFrom_5 (fun H locs hw => ?_)
  obtain ⟨τ1, eτ1⟩ : ∃ zz : sS, va_up σ (1 + 1) (upd (σ (1 + 1)) 1 (σ (1 + 0) 1)) = zz := ⟨_, rfl⟩
  rw [eτ1] at hw
  refine lv_aload_n hx hb dX2_copyFrom_8 rfl (lv_at hl 0 rfl) ?_
  refine lv_aload_n hx hb dX2_copyFrom_9 rfl (lv_at hl 1 rfl) ?_
  refine sg_r (r := 0) hx hb hts iX2_copyFrom_X2 hown hK hw (by omega) 2 (by decide) (hts _ mX2_copyFrom_2) dX2_copyFrom_10 ?_
  refine sp_r (r := 1) hx hb hts iX2_copyFrom_X2 hown hK hw (by omega) 2 (by decide) (hts _ mX2_copyFrom_2) dX2_copyFrom_13 (fun H locs hw => ?_)
  obtain ⟨τ2, eτ2⟩ : ∃ zz : sS, va_up τ1 (1 + 1) (upd (τ1 (1 + 1)) 2 (τ1 (1 + 0) 2)) = zz := ⟨_, rfl⟩
  rw [eτ2] at hw
  refine lv_aload_n hx hb dX2_copyFrom_16 rfl (lv_at hl 0 rfl) ?_
  refine lv_aload_n hx hb dX2_copyFrom_17 rfl (lv_at hl 1 rfl) ?_
  refine sg_r (r := 0) hx hb hts iX2_copyFrom_X2 hown hK hw (by omega) 3 (by decide) (hts _ mX2_copyFrom_3) dX2_copyFrom_18 ?_
  refine sp_r (r := 1) hx hb hts iX2_copyFrom_X2 hown hK hw (by omega) 3 (by decide) (hts _ mX2_copyFrom_3) dX2_copyFrom_21 (fun H locs hw => ?_)
  obtain ⟨τ3, eτ3⟩ : ∃ zz : sS, va_up τ2 (1 + 1) (upd (τ2 (1 + 1)) 3 (τ2 (1 + 0) 3)) = zz := ⟨_, rfl⟩
  rw [eτ3] at hw
  refine lv_aload_n hx hb dX2_copyFrom_24 rfl (lv_at hl 0 rfl) ?_
  refine lv_aload_n hx hb dX2_copyFrom_25 rfl (lv_at hl 1 rfl) ?_
  refine sg_r (r := 0) hx hb hts iX2_copyFrom_X2 hown hK hw (by omega) 4 (by decide) (hts _ mX2_copyFrom_4) dX2_copyFrom_26 ?_
  refine sp_r (r := 1) hx hb hts iX2_copyFrom_X2 hown hK hw (by omega) 4 (by decide) (hts _ mX2_copyFrom_4) dX2_copyFrom_29 (fun H locs hw => ?_)
  obtain ⟨τ4, eτ4⟩ : ∃ zz : sS, va_up τ3 (1 + 1) (upd (τ3 (1 + 1)) 4 (τ3 (1 + 0) 4)) = zz := ⟨_, rfl⟩
  rw [eτ4] at hw
  have hw := sH_w (σ' := va_up σ 2 (σ 1)) (by subst eτ4 eτ3 eτ2 eτ1; rw [sup_up, sup_up, sup_up]; exact sW_up (by rfl)) hw
  refine lv_iconst (v := 0) hx hb dX2_copyFrom_32 (by decide) ?_
  refine lv_istore_n (lv' := [(2, .int 0), (0, .ref (a 2)), (1, .ref (a 1))]) hx hb dX2_copyFrom_33 rfl hl (by decide) rfl (fun ls hl => ?_)
  have loop : ∀ (Q : State → Prop) (n : Nat) (k : Nat) (τ : sS)  (H : Heap) (locs : List Loc) (ls : Array Slot), k + n = 8 ∧ sZ τ → sH D a cs (sA a s.heap.size) s.heap τ H locs → lv_has ls 3 [(0, .ref (a 2)), (1, .ref (a 1)), (2, .int (nI k))] → (∀ (H : Heap) (locs : List Loc) (ls : Array Slot), sH D a cs (sA a s.heap.size) s.heap (f_X2_cp n k τ) H locs → lv_has ls 3 [(0, .ref (a 2))] → W p l e { frames := 1, cells := 0, slots := 0, locals := 21 } s m #[Value.ref (a 2), Value.ref (a 1)] below meth c H locs 0 0 Q (F0 m 61 ls [])) → W p l e { frames := 1, cells := 0, slots := 0, locals := 21 } s m #[Value.ref (a 2), Value.ref (a 1)] below meth c H locs 0 0 Q (F0 m 34 ls []) := by
    intro Q n
    induction n with
    | zero =>
      intro k τ  H locs ls hkn hw hl kont
      refine lv_iload_n hx hb dX2_copyFrom_34 rfl (lv_at hl 2 rfl) ?_
      refine lv_bipush (v := 8) hx hb dX2_copyFrom_35 (by decide) ?_
      refine lv_icmp_ge (tgt := 61) hx hb dX2_copyFrom_37 (by decide) (fun c5 => ?_) (fun c5 => absurd (by rw [show k = 8 by omega]; decide) c5)
      exact kont H locs ls hw (lv_sub hl [0] rfl)
    | succ n ih =>
      intro k τ  H locs ls hkn hw hl kont
      refine lv_iload_n hx hb dX2_copyFrom_34 rfl (lv_at hl 2 rfl) ?_
      refine lv_bipush (v := 8) hx hb dX2_copyFrom_35 (by decide) ?_
      refine lv_icmp_ge (tgt := 61) hx hb dX2_copyFrom_37 (by decide) (fun c6 => absurd c6 (nI_ge (a := k) (b := 8) (by omega) (by decide))) (fun c6 => ?_)
      refine lv_aload_n hx hb dX2_copyFrom_40 rfl (lv_at hl 0 rfl) ?_
      refine sg_rq (r := 1) hx hb hts iX2_copyFrom_X2 hown hK hw (by omega) (hts _ mX2_copyFrom_5) dX2_copyFrom_41 ?_
      refine lv_iload_n hx hb dX2_copyFrom_44 rfl (lv_at hl 2 rfl) ?_
      refine sg_q (r := 1) (k := k) hx hb hK hw (by omega) (by omega) rfl dX2_copyFrom_45 ?_
      refine lv_aload_n hx hb dX2_copyFrom_46 rfl (lv_at hl 1 rfl) ?_
      refine sg_rq (r := 0) hx hb hts iX2_copyFrom_X2 hown hK hw (by omega) (hts _ mX2_copyFrom_5) dX2_copyFrom_47 ?_
      refine lv_iload_n hx hb dX2_copyFrom_50 rfl (lv_at hl 2 rfl) ?_
      refine sg_q (r := 0) (k := k) hx hb hK hw (by omega) (by omega) rfl dX2_copyFrom_51 ?_
      have hw := sH_foc (i := 5 + 8 * 1 + k) hw
      refine sc_v (sr_V (i := 5 + 8 * 1 + k) (As := [.ref (a (5 + 8 * 0 + k))]) (rest := []) ⟨hx, hb, hml, hown, hts⟩ (zX1_copyFrom l D a cs τ (5 + 8 * 1 + k) (5 + 8 * 0 + k) (by omega) (by omega) (by omega) _ (fun q h1 h2 => hkn.2 k (by omega) q h1 h2) _) (cwV 1 hts gX2_copyFrom_X1_copyFrom rfl rfl rfl (by decide +kernel) ⟨Nat.le_of_ble_eq_true rfl, Nat.le_of_ble_eq_true rfl⟩) hK hN hw (by omega) (sE_p (by omega)) kcX1 rfl hl.1 (Nat.le_of_ble_eq_true rfl) dX2_copyFrom_52 ⟨Nat.le_of_ble_eq_true rfl, Nat.le_of_ble_eq_true rfl⟩) hw hA (fun H locs hw => ?_)
      obtain ⟨τ7, eτ7⟩ : ∃ zz : sS, va_up τ (5 + 8 * 1 + k) (τ (5 + 8 * 0 + k)) = zz := ⟨_, rfl⟩
      rw [eτ7] at hw
      refine lv_iinc (v := nI (k + 1)) (lv' := [(2, .int (nI (k + 1))), (0, .ref (a 2)), (1, .ref (a 1))]) hx hb dX2_copyFrom_55 hl (k := 2) rfl (nI_1 k) (by decide) rfl (fun ls hl => ?_)
      refine lv_goto (tgt := 34) hx hb dX2_copyFrom_58 (by decide) ?_
      have hstep : f_X2_cp (n + 1) k τ = f_X2_cp n (k + 1) τ7 := by
        subst eτ7; rfl
      exact ih (k + 1) τ7  H locs ls ⟨by omega, by subst eτ7; exact sZ_up hkn.2 (by omega)⟩ hw (lv_sub hl [1, 2, 0] rfl) (fun H locs ls hw hl => kont H locs ls (by rw [hstep]; exact hw) (by exact hl))
  refine loop _ 8 0 (va_up σ 2 (σ 1))  _ _ _ ⟨by decide, sZ_up hz (by omega)⟩ hw (lv_sub hl [1, 2, 0] rfl) (fun H locs ls hw hl => ?_)
  obtain ⟨τ8, eτ8⟩ : ∃ zz : sS, f_X2_cp 8 0 (va_up σ 2 (σ 1)) = zz := ⟨_, rfl⟩
  rw [eτ8] at hw
  exact se_v hx hb hr hlocks hw (by subst eτ8; exact rfl) dX2_copyFrom_61
end
section
theorem zX1_read (l : Launch) (D : va_G) (a : Nat → Nat) (cs : Nat → ClassId) (σ : sS) (i : Nat) (hi : 5 ≤ i ∧ i < 21) (f : Nat → Int32) (k : Nat) (hk : k < 11) : sMi l yX1_read wsX1_read ({ frames := 2, cells := 0, slots := 0, locals := 45 }) D a cs [.ref (a i), .int (nI k)] (va_up σ i f) (f_X1_read f k) (va_up σ i f) := by
  rcases (show k = 0 ∨ k = 1 ∨ k = 2 ∨ k = 3 ∨ k = 4 ∨ k = 5 ∨ k = 6 ∨ k = 7 ∨ k = 8 ∨ k = 9 ∨ k = 10 by omega) with rfl | rfl | rfl | rfl | rfl | rfl | rfl | rfl | rfl | rfl | rfl
  · exact zX1_read_0 l D a cs σ i hi f
  · exact zX1_read_1 l D a cs σ i hi f
  · exact zX1_read_2 l D a cs σ i hi f
  · exact zX1_read_3 l D a cs σ i hi f
  · exact zX1_read_4 l D a cs σ i hi f
  · exact zX1_read_5 l D a cs σ i hi f
  · exact zX1_read_6 l D a cs σ i hi f
  · exact zX1_read_7 l D a cs σ i hi f
  · exact zX1_read_8 l D a cs σ i hi f
  · exact zX1_read_9 l D a cs σ i hi f
  · exact zX1_read_10 l D a cs σ i hi f
theorem zX0_read (l : Launch) (D : va_G) (a : Nat → Nat) (cs : Nat → ClassId) (σ : sS) (j : Nat) (hj6 : j < 6) (k : Nat) (hk : k < 6) : sMi l yX0_read wsX0_read ({ frames := 2, cells := 0, slots := 0, locals := 46 }) D a cs [.ref (a (22 + j)), .int (nI k)] σ (f_X0_read (σ (22 + j)) k) σ := by
  rcases (show k = 0 ∨ k = 1 ∨ k = 2 ∨ k = 3 ∨ k = 4 ∨ k = 5 by omega) with rfl | rfl | rfl | rfl | rfl | rfl
  · exact zX0_read_0 l D a cs σ j hj6
  · exact zX0_read_1 l D a cs σ j hj6
  · exact zX0_read_2 l D a cs σ j hj6
  · exact zX0_read_3 l D a cs σ j hj6
  · exact zX0_read_4 l D a cs σ j hj6
  · exact zX0_read_5 l D a cs σ j hj6
theorem mX2_sumOfPonds_0 : (Cond.fieldLink RX2 11 "SaltRow$Row" "ponds" "[LSaltRow$Pond;") ∈ wsX2_sumOfPonds := by decide +kernel
theorem iX2_sumOfPonds_X2 : ∀ w ∈ wsX20, w ∈ wsX2_sumOfPonds := by decide +kernel
set_option maxHeartbeats 4000000 in
set_option maxRecDepth 100000 in
theorem zX2_sumOfPonds (l : Launch) (D : va_G) (a : Nat → Nat) (cs : Nat → ClassId) (σ : sS) (r : Nat) (hr2 : r < 2)  (w : Nat) (hw11 : w < 11) : sMi l yX2_sumOfPonds wsX2_sumOfPonds ({ frames := 3, cells := 0, slots := 0, locals := 66 }) D a cs [.ref (a (1 + r)), .int (nI w)] σ (f_X2_sumOfPonds σ r w) σ := by
  intro sz
  refine Met.ofW (cc := cX2_sumOfPonds) (maxL := 4) (ret := (some .int)) (by decide) rfl ?_
  intro p e s m args below meth c s₁ B hml hv
  obtain ⟨rfl, hsz, hv2⟩ := hv
  have hv3 : sB D a cs σ sz s := ⟨hsz, hv2⟩
  subst hsz
  have hw := sH_start hv3
  obtain ⟨-, -, hK, -, hN⟩ := hv3
  have hx := B.exec
  have hb := B.bytes
  have hr := B.returns
  have hts := atoms_spec (ws := wsX2_sumOfPonds) B.pre
  have hown : s.vm.findClass RX2 = some m.cls := findClass_of_methodNamed B.named
  have hlocks := B.notSynchronized
  have hA : ∀ q : Nat, s.heap.size ≤ q → sA a s.heap.size q := sA_new
  have hl := lv_entry ([.ref (a (1 + r)), .int (nI w)]) (n := 4) (Nat.le_of_ble_eq_true rfl)
  rw [lg_entry_eq]
  generalize (lg_sl ([.ref (a (1 + r)), .int (nI w)]) ++ List.replicate (4 - (lg_sl ([.ref (a (1 + r)), .int (nI w)])).length) Slot.unset).toArray = ls at hl ⊢
  have hl : lv_has ls 4 [(0, .ref (a (1 + r))), (1, .int (nI w))] := hl
  refine lv_iconst (v := 0) hx hb dX2_sumOfPonds_0 (by decide) ?_
  refine lv_istore_n (lv' := [(2, .int 0), (0, .ref (a (1 + r))), (1, .int (nI w))]) hx hb dX2_sumOfPonds_1 rfl hl (by decide) rfl (fun ls hl => ?_)
  refine lv_iconst (v := 0) hx hb dX2_sumOfPonds_2 (by decide) ?_
  refine lv_istore_n (lv' := [(3, .int 0), (2, .int 0), (0, .ref (a (1 + r))), (1, .int (nI w))]) hx hb dX2_sumOfPonds_3 rfl hl (by decide) rfl (fun ls hl => ?_)
  have loop : ∀ (Q : State → Prop) (n : Nat) (k : Nat) (τ : sS) (v : Int32) (H : Heap) (locs : List Loc) (ls : Array Slot), k + n = 8 → sH D a cs (sA a s.heap.size) s.heap τ H locs → lv_has ls 4 [(0, .ref (a (1 + r))), (1, .int (nI w)), (2, .int v), (3, .int (nI k))] → (∀ (H : Heap) (locs : List Loc) (ls : Array Slot), sH D a cs (sA a s.heap.size) s.heap (τ) H locs → lv_has ls 4 [(2, .int (f_X2_psum w r τ n k v))] → W p l e { frames := 3, cells := 0, slots := 0, locals := 66 } s m #[Value.ref (a (1 + r)), Value.int (nI w)] below meth c H locs 0 0 Q (F0 m 29 ls [])) → W p l e { frames := 3, cells := 0, slots := 0, locals := 66 } s m #[Value.ref (a (1 + r)), Value.int (nI w)] below meth c H locs 0 0 Q (F0 m 4 ls []) := by
    intro Q n
    induction n with
    | zero =>
      intro k τ v H locs ls hkn hw hl kont
      refine lv_iload_n hx hb dX2_sumOfPonds_4 rfl (lv_at hl 3 rfl) ?_
      refine lv_bipush (v := 8) hx hb dX2_sumOfPonds_5 (by decide) ?_
      refine lv_icmp_ge (tgt := 29) hx hb dX2_sumOfPonds_7 (by decide) (fun c1 => ?_) (fun c1 => absurd (by rw [show k = 8 by omega]; decide) c1)
      exact kont H locs ls hw (lv_sub hl [2] rfl)
    | succ n ih =>
      intro k τ v H locs ls hkn hw hl kont
      refine lv_iload_n hx hb dX2_sumOfPonds_4 rfl (lv_at hl 3 rfl) ?_
      refine lv_bipush (v := 8) hx hb dX2_sumOfPonds_5 (by decide) ?_
      refine lv_icmp_ge (tgt := 29) hx hb dX2_sumOfPonds_7 (by decide) (fun c2 => absurd c2 (nI_ge (a := k) (b := 8) (by omega) (by decide))) (fun c2 => ?_)
      refine lv_iload_n hx hb dX2_sumOfPonds_10 rfl (lv_at hl 2 rfl) ?_
      refine lv_aload_n hx hb dX2_sumOfPonds_11 rfl (lv_at hl 0 rfl) ?_
      refine sg_rq (r := r) hx hb hts iX2_sumOfPonds_X2 hown hK hw hr2 (hts _ mX2_sumOfPonds_0) dX2_sumOfPonds_12 ?_
      refine lv_iload_n hx hb dX2_sumOfPonds_15 rfl (lv_at hl 3 rfl) ?_
      refine sg_q (r := r) (k := k) hx hb hK hw hr2 (by omega) rfl dX2_sumOfPonds_16 ?_
      refine lv_iload_n hx hb dX2_sumOfPonds_17 rfl (lv_at hl 1 rfl) ?_
      have hw := sH_foc (i := 5 + 8 * r + k) hw
      refine sc_i (sr_V (i := 5 + 8 * r + k) (As := [.int (nI w)]) (rest := [.int v]) ⟨hx, hb, hml, hown, hts⟩ (zX1_read l D a cs _ (5 + 8 * r + k) (by omega) _ w (by omega) _) (cwV 1 hts gX2_sumOfPonds_X1_read rfl rfl rfl (by decide +kernel) ⟨Nat.le_of_ble_eq_true rfl, Nat.le_of_ble_eq_true rfl⟩) hK hN hw (by omega) (sE_p (by omega)) kcX1 rfl hl.1 (Nat.le_of_ble_eq_true rfl) dX2_sumOfPonds_18 ⟨Nat.le_of_ble_eq_true rfl, Nat.le_of_ble_eq_true rfl⟩) hw hA (fun H locs hw => ?_)
      have hw := sH_unf hw
      refine lv_iadd hx hb dX2_sumOfPonds_21 ?_
      refine lw_topi (fun x3 ex3 => ?_)
      refine lv_istore_n (lv' := [(2, .int x3), (0, .ref (a (1 + r))), (1, .int (nI w)), (3, .int (nI k))]) hx hb dX2_sumOfPonds_22 rfl hl (by decide) rfl (fun ls hl => ?_)
      refine lv_iinc (v := nI (k + 1)) (lv' := [(3, .int (nI (k + 1))), (2, .int x3), (0, .ref (a (1 + r))), (1, .int (nI w))]) hx hb dX2_sumOfPonds_23 hl (k := 3) rfl (nI_1 k) (by decide) rfl (fun ls hl => ?_)
      refine lv_goto (tgt := 4) hx hb dX2_sumOfPonds_26 (by decide) ?_
      have hstep : τ = τ := by
        subst ex3; rfl
      have hval0 : f_X2_psum w r τ (n + 1) k v = f_X2_psum w r τ n (k + 1) x3 := by
        subst ex3; rfl
      exact ih (k + 1) τ x3 H locs ls (by omega) hw (lv_sub hl [2, 3, 1, 0] rfl) (fun H locs ls hw hl => kont H locs ls (by rw [hstep]; exact hw) (by rw [hval0]; exact hl))
  refine loop _ 8 0 σ 0 _ _ _ (by decide) hw (lv_sub hl [2, 3, 1, 0] rfl) (fun H locs ls hw hl => ?_)
  obtain ⟨τ4, eτ4⟩ : ∃ zz : sS, σ = zz := ⟨_, rfl⟩
  rw [eτ4] at hw
  refine lv_iload_n hx hb dX2_sumOfPonds_29 rfl (lv_at hl 0 rfl) ?_
  exact se_i hx hb hr hlocks hw (by subst eτ4; exact rfl) (by subst eτ4; rfl) dX2_sumOfPonds_30
set_option maxHeartbeats 4000000 in
set_option maxRecDepth 100000 in
theorem zX3_needPond (l : Launch) (D : va_G) (a : Nat → Nat) (cs : Nat → ClassId) (σ : sS) (k : Nat) (hk : k < 8) : sMv l yX3_needPond wsX3_needPond ({ frames := 0, cells := 0, slots := 0, locals := 0 }) D a cs [.ref (a 0), .int (nI k)] σ σ := by
  intro sz
  refine Met.ofW (cc := cX3_needPond) (maxL := 2) (ret := none) (by decide) rfl ?_
  intro p e s m args below meth c s₁ B hml hv
  obtain ⟨rfl, hsz, hv2⟩ := hv
  have hv3 : sB D a cs σ sz s := ⟨hsz, hv2⟩
  subst hsz
  have hw := sH_start hv3
  obtain ⟨-, -, hK, -, hN⟩ := hv3
  have hx := B.exec
  have hb := B.bytes
  have hr := B.returns
  have hts := atoms_spec (ws := wsX3_needPond) B.pre
  have hown : s.vm.findClass RX3 = some m.cls := findClass_of_methodNamed B.named
  have hlocks := B.notSynchronized
  have hA : ∀ q : Nat, s.heap.size ≤ q → sA a s.heap.size q := sA_new
  have hl := lv_entry ([.ref (a 0), .int (nI k)]) (n := 2) (Nat.le_of_ble_eq_true rfl)
  rw [lg_entry_eq]
  generalize (lg_sl ([.ref (a 0), .int (nI k)]) ++ List.replicate (2 - (lg_sl ([.ref (a 0), .int (nI k)])).length) Slot.unset).toArray = ls at hl ⊢
  have hl : lv_has ls 2 [(0, .ref (a 0)), (1, .int (nI k))] := hl
  refine lv_iload_n hx hb dX3_needPond_0 rfl (lv_at hl 1 rfl) ?_
  refine lv_if_lt (tgt := 10) hx hb dX3_needPond_1 (by decide) (fun c1 => absurd c1 (nI_pos (n := k) (by omega))) (fun c1 => ?_)
  refine lv_iload_n hx hb dX3_needPond_4 rfl (lv_at hl 1 rfl) ?_
  refine lv_bipush (v := 8) hx hb dX3_needPond_5 (by decide) ?_
  refine lv_icmp_lt (tgt := 21) hx hb dX3_needPond_7 (by decide) (fun c2 => ?_) (fun c2 => absurd (nI_lt (a := k) (b := 8) (by omega) (by decide)) c2)
  exact se_v hx hb hr hlocks hw (by rfl) dX3_needPond_21
set_option maxHeartbeats 4000000 in
set_option maxRecDepth 100000 in
theorem zX3_needPan (l : Launch) (D : va_G) (a : Nat → Nat) (cs : Nat → ClassId) (σ : sS) (q : Nat) (hq : q < 3) : sMv l yX3_needPan wsX3_needPan ({ frames := 0, cells := 0, slots := 0, locals := 0 }) D a cs [.ref (a 0), .int (nI (5 + q))] σ σ := by
  intro sz
  refine Met.ofW (cc := cX3_needPan) (maxL := 2) (ret := none) (by decide) rfl ?_
  intro p e s m args below meth c s₁ B hml hv
  obtain ⟨rfl, hsz, hv2⟩ := hv
  have hv3 : sB D a cs σ sz s := ⟨hsz, hv2⟩
  subst hsz
  have hw := sH_start hv3
  obtain ⟨-, -, hK, -, hN⟩ := hv3
  have hx := B.exec
  have hb := B.bytes
  have hr := B.returns
  have hts := atoms_spec (ws := wsX3_needPan) B.pre
  have hown : s.vm.findClass RX3 = some m.cls := findClass_of_methodNamed B.named
  have hlocks := B.notSynchronized
  have hA : ∀ q : Nat, s.heap.size ≤ q → sA a s.heap.size q := sA_new
  have hl := lv_entry ([.ref (a 0), .int (nI (5 + q))]) (n := 2) (Nat.le_of_ble_eq_true rfl)
  rw [lg_entry_eq]
  generalize (lg_sl ([.ref (a 0), .int (nI (5 + q))]) ++ List.replicate (2 - (lg_sl ([.ref (a 0), .int (nI (5 + q))])).length) Slot.unset).toArray = ls at hl ⊢
  have hl : lv_has ls 2 [(0, .ref (a 0)), (1, .int (nI (5 + q)))] := hl
  refine lv_iload_n hx hb dX3_needPan_0 rfl (lv_at hl 1 rfl) ?_
  refine lv_iconst (v := 5) hx hb dX3_needPan_1 (by decide) ?_
  refine lv_icmp_lt (tgt := 11) hx hb dX3_needPan_2 (by decide) (fun c1 => absurd c1 (nI_nlt (a := 5 + q) (b := 5) (by omega) (by omega))) (fun c1 => ?_)
  refine lv_iload_n hx hb dX3_needPan_5 rfl (lv_at hl 1 rfl) ?_
  refine lv_bipush (v := 8) hx hb dX3_needPan_6 (by decide) ?_
  refine lv_icmp_lt (tgt := 22) hx hb dX3_needPan_8 (by decide) (fun c2 => ?_) (fun c2 => absurd (nI_lt (a := 5 + q) (b := 8) (by omega) (by decide)) c2)
  exact se_v hx hb hr hlocks hw (by rfl) dX3_needPan_22
theorem mX3_needFamily_0 : (Cond.fieldLink RX3 129 "SaltRow" "familyCount" "I") ∈ wsX3_needFamily := by decide +kernel
theorem iX3_needFamily_X3 : ∀ w ∈ wsX30, w ∈ wsX3_needFamily := by decide +kernel
set_option maxHeartbeats 4000000 in
set_option maxRecDepth 100000 in
theorem zX3_needFamily (l : Launch) (D : va_G) (a : Nat → Nat) (cs : Nat → ClassId) (σ : sS) (j : Nat) (hj6 : j < 6) (hj : nI j < σ 0 3) : sMv l yX3_needFamily wsX3_needFamily ({ frames := 0, cells := 0, slots := 0, locals := 0 }) D a cs [.ref (a 0), .int (nI j)] σ σ := by
  intro sz
  refine Met.ofW (cc := cX3_needFamily) (maxL := 2) (ret := none) (by decide) rfl ?_
  intro p e s m args below meth c s₁ B hml hv
  obtain ⟨rfl, hsz, hv2⟩ := hv
  have hv3 : sB D a cs σ sz s := ⟨hsz, hv2⟩
  subst hsz
  have hw := sH_start hv3
  obtain ⟨-, -, hK, -, hN⟩ := hv3
  have hx := B.exec
  have hb := B.bytes
  have hr := B.returns
  have hts := atoms_spec (ws := wsX3_needFamily) B.pre
  have hown : s.vm.findClass RX3 = some m.cls := findClass_of_methodNamed B.named
  have hlocks := B.notSynchronized
  have hA : ∀ q : Nat, s.heap.size ≤ q → sA a s.heap.size q := sA_new
  have hl := lv_entry ([.ref (a 0), .int (nI j)]) (n := 2) (Nat.le_of_ble_eq_true rfl)
  rw [lg_entry_eq]
  generalize (lg_sl ([.ref (a 0), .int (nI j)]) ++ List.replicate (2 - (lg_sl ([.ref (a 0), .int (nI j)])).length) Slot.unset).toArray = ls at hl ⊢
  have hl : lv_has ls 2 [(0, .ref (a 0)), (1, .int (nI j))] := hl
  refine lv_iload_n hx hb dX3_needFamily_0 rfl (lv_at hl 1 rfl) ?_
  refine lv_if_lt (tgt := 12) hx hb dX3_needFamily_1 (by decide) (fun c1 => absurd c1 (nI_pos (n := j) (by omega))) (fun c1 => ?_)
  refine lv_iload_n hx hb dX3_needFamily_4 rfl (lv_at hl 1 rfl) ?_
  refine lv_aload_n hx hb dX3_needFamily_5 rfl (lv_at hl 0 rfl) ?_
  refine sg_o hx hb hts iX3_needFamily_X3 hown hK hw 3 (by decide) (hts _ mX3_needFamily_0) dX3_needFamily_6 ?_
  refine lv_icmp_lt (tgt := 23) hx hb dX3_needFamily_9 (by decide) (fun c2 => ?_) (fun c2 => absurd hj c2)
  exact se_v hx hb hr hlocks hw (by rfl) dX3_needFamily_23
set_option maxHeartbeats 4000000 in
set_option maxRecDepth 100000 in
theorem zX3_needWeather (l : Launch) (D : va_G) (a : Nat → Nat) (cs : Nat → ClassId) (σ : sS) (x y : Int32) (hx0 : ¬ x < 0) (hx9 : x ≤ 9) (hy0 : ¬ y < 0) (hy9 : y ≤ 9) : sMv l yX3_needWeather wsX3_needWeather ({ frames := 0, cells := 0, slots := 0, locals := 0 }) D a cs [.ref (a 0), .int x, .int y] σ σ := by
  intro sz
  refine Met.ofW (cc := cX3_needWeather) (maxL := 3) (ret := none) (by decide) rfl ?_
  intro p e s m args below meth c s₁ B hml hv
  obtain ⟨rfl, hsz, hv2⟩ := hv
  have hv3 : sB D a cs σ sz s := ⟨hsz, hv2⟩
  subst hsz
  have hw := sH_start hv3
  obtain ⟨-, -, hK, -, hN⟩ := hv3
  have hx := B.exec
  have hb := B.bytes
  have hr := B.returns
  have hts := atoms_spec (ws := wsX3_needWeather) B.pre
  have hown : s.vm.findClass RX3 = some m.cls := findClass_of_methodNamed B.named
  have hlocks := B.notSynchronized
  have hA : ∀ q : Nat, s.heap.size ≤ q → sA a s.heap.size q := sA_new
  have hl := lv_entry ([.ref (a 0), .int x, .int y]) (n := 3) (Nat.le_of_ble_eq_true rfl)
  rw [lg_entry_eq]
  generalize (lg_sl ([.ref (a 0), .int x, .int y]) ++ List.replicate (3 - (lg_sl ([.ref (a 0), .int x, .int y])).length) Slot.unset).toArray = ls at hl ⊢
  have hl : lv_has ls 3 [(0, .ref (a 0)), (1, .int x), (2, .int y)] := hl
  refine lv_iload_n hx hb dX3_needWeather_0 rfl (lv_at hl 1 rfl) ?_
  refine lv_if_lt (tgt := 10) hx hb dX3_needWeather_1 (by decide) (fun c1 => absurd c1 hx0) (fun c1 => ?_)
  refine lv_iload_n hx hb dX3_needWeather_4 rfl (lv_at hl 1 rfl) ?_
  refine lv_bipush (v := 9) hx hb dX3_needWeather_5 (by decide) ?_
  refine lv_icmp_le (tgt := 21) hx hb dX3_needWeather_7 (by decide) (fun c2 => ?_) (fun c2 => absurd hx9 c2)
  refine lv_iload_n hx hb dX3_needWeather_21 rfl (lv_at hl 2 rfl) ?_
  refine lv_if_lt (tgt := 31) hx hb dX3_needWeather_22 (by decide) (fun c3 => absurd c3 hy0) (fun c3 => ?_)
  refine lv_iload_n hx hb dX3_needWeather_25 rfl (lv_at hl 2 rfl) ?_
  refine lv_bipush (v := 9) hx hb dX3_needWeather_26 (by decide) ?_
  refine lv_icmp_le (tgt := 42) hx hb dX3_needWeather_28 (by decide) (fun c4 => ?_) (fun c4 => absurd hy9 c4)
  exact se_v hx hb hr hlocks hw (by rfl) dX3_needWeather_42
theorem mX3_area_0 : (Cond.fieldLink RX3 10 "SaltRow" "row" "LSaltRow$Row;") ∈ wsX3_area := by decide +kernel
theorem iX3_area_X3 : ∀ w ∈ wsX30, w ∈ wsX3_area := by decide +kernel
theorem mX3_area_2 : (Cond.fieldLink RX3 37 "SaltRow$Row" "day" "I") ∈ wsX3_area := by decide +kernel
theorem iX3_area_X2 : ∀ w ∈ wsX20, w ∈ wsX3_area := by decide +kernel
theorem mX3_area_4 : (Cond.fieldLink RX3 46 "SaltRow$Row" "ponds" "[LSaltRow$Pond;") ∈ wsX3_area := by decide +kernel
theorem mX3_area_5 : (Cond.fieldLink RX3 50 "SaltRow$Pond" "area" "I") ∈ wsX3_area := by decide +kernel
theorem iX3_area_X1 : ∀ w ∈ wsX10, w ∈ wsX3_area := by decide +kernel
set_option maxHeartbeats 4000000 in
set_option maxRecDepth 100000 in
theorem zX3_area (l : Launch) (D : va_G) (a : Nat → Nat) (cs : Nat → ClassId) (σ : sS) (k : Nat) (hk : k < 8) (x : Int32) (hx1 : ¬ x < 1) (hx9 : x ≤ 9) (hd : σ (1 + 0) 1 ≤ 0) : sMi l yX3_area wsX3_area ({ frames := 1, cells := 0, slots := 0, locals := 21 }) D a cs [.ref (a 0), .int (nI k), .int x] σ (σ (5 + 8 * 0 + k) 0) (va_up σ (5 + 8 * 0 + k) (upd (σ (5 + 8 * 0 + k)) 0 x)) := by
  intro sz
  refine Met.ofW (cc := cX3_area) (maxL := 4) (ret := (some .int)) (by decide) rfl ?_
  intro p e s m args below meth c s₁ B hml hv
  obtain ⟨rfl, hsz, hv2⟩ := hv
  have hv3 : sB D a cs σ sz s := ⟨hsz, hv2⟩
  subst hsz
  have hw := sH_start hv3
  obtain ⟨-, -, hK, -, hN⟩ := hv3
  have hx := B.exec
  have hb := B.bytes
  have hr := B.returns
  have hts := atoms_spec (ws := wsX3_area) B.pre
  have hown : s.vm.findClass RX3 = some m.cls := findClass_of_methodNamed B.named
  have hlocks := B.notSynchronized
  have hA : ∀ q : Nat, s.heap.size ≤ q → sA a s.heap.size q := sA_new
  have hl := lv_entry ([.ref (a 0), .int (nI k), .int x]) (n := 4) (Nat.le_of_ble_eq_true rfl)
  rw [lg_entry_eq]
  generalize (lg_sl ([.ref (a 0), .int (nI k), .int x]) ++ List.replicate (4 - (lg_sl ([.ref (a 0), .int (nI k), .int x])).length) Slot.unset).toArray = ls at hl ⊢
  have hl : lv_has ls 4 [(0, .ref (a 0)), (1, .int (nI k)), (2, .int x)] := hl
  refine lv_aload_n hx hb dX3_area_0 rfl (lv_at hl 0 rfl) ?_
  refine lv_iload_n hx hb dX3_area_1 rfl (lv_at hl 1 rfl) ?_
  refine sc_v (sr_V (i := 0) (As := [.int (nI k)]) (rest := []) ⟨hx, hb, hml, hown, hts⟩ (zX3_needPond l D a cs _ k (by omega) _) (cwV 1 hts gX3_area_X3_needPond rfl rfl rfl (by decide +kernel) ⟨Nat.le_of_ble_eq_true rfl, Nat.le_of_ble_eq_true rfl⟩) hK hN hw (by omega) sE_o kcX3 rfl hl.1 (Nat.le_of_ble_eq_true rfl) dX3_area_2 ⟨Nat.le_of_ble_eq_true rfl, Nat.le_of_ble_eq_true rfl⟩) hw hA (fun H locs hw => ?_)
  refine lv_iload_n hx hb dX3_area_5 rfl (lv_at hl 2 rfl) ?_
  refine lv_iconst (v := 1) hx hb dX3_area_6 (by decide) ?_
  refine lv_icmp_lt (tgt := 16) hx hb dX3_area_7 (by decide) (fun c1 => absurd c1 hx1) (fun c1 => ?_)
  refine lv_iload_n hx hb dX3_area_10 rfl (lv_at hl 2 rfl) ?_
  refine lv_bipush (v := 9) hx hb dX3_area_11 (by decide) ?_
  refine lv_icmp_le (tgt := 26) hx hb dX3_area_13 (by decide) (fun c2 => ?_) (fun c2 => absurd hx9 c2)
  refine lv_aload_n hx hb dX3_area_26 rfl (lv_at hl 0 rfl) ?_
  refine sg_oq hx hb hts iX3_area_X3 hown hK hw 0 (Or.inl ⟨rfl, rfl⟩) (hts _ mX3_area_0) dX3_area_27 ?_
  refine sg_r (r := 0) hx hb hts iX3_area_X2 hown hK hw (by omega) 1 (by decide) (hts _ mX3_area_2) dX3_area_30 ?_
  refine lv_if_le (tgt := 46) hx hb dX3_area_33 (by decide) (fun c3 => ?_) (fun c3 => absurd hd c3)
  refine lv_aload_n hx hb dX3_area_46 rfl (lv_at hl 0 rfl) ?_
  refine sg_oq hx hb hts iX3_area_X3 hown hK hw 0 (Or.inl ⟨rfl, rfl⟩) (hts _ mX3_area_0) dX3_area_47 ?_
  refine sg_rq (r := 0) hx hb hts iX3_area_X2 hown hK hw (by omega) (hts _ mX3_area_4) dX3_area_50 ?_
  refine lv_iload_n hx hb dX3_area_53 rfl (lv_at hl 1 rfl) ?_
  refine sg_q (r := 0) (k := k) hx hb hK hw (by omega) (by omega) rfl dX3_area_54 ?_
  refine sg_p hx hb hts iX3_area_X1 hown hK hw (by omega) 0 (by decide) (hts _ mX3_area_5) dX3_area_55 ?_
  refine lv_istore_n (lv' := [(3, .int (σ (5 + 8 * 0 + k) 0)), (0, .ref (a 0)), (1, .int (nI k)), (2, .int x)]) hx hb dX3_area_58 rfl hl (by decide) rfl (fun ls hl => ?_)
  refine lv_aload_n hx hb dX3_area_59 rfl (lv_at hl 1 rfl) ?_
  refine sg_oq hx hb hts iX3_area_X3 hown hK hw 0 (Or.inl ⟨rfl, rfl⟩) (hts _ mX3_area_0) dX3_area_60 ?_
  refine sg_rq (r := 0) hx hb hts iX3_area_X2 hown hK hw (by omega) (hts _ mX3_area_4) dX3_area_63 ?_
  refine lv_iload_n hx hb dX3_area_66 rfl (lv_at hl 2 rfl) ?_
  refine sg_q (r := 0) (k := k) hx hb hK hw (by omega) (by omega) rfl dX3_area_67 ?_
  refine lv_iload_n hx hb dX3_area_68 rfl (lv_at hl 3 rfl) ?_
  refine sp_p hx hb hts iX3_area_X1 hown hK hw (by omega) 0 (by decide) (hts _ mX3_area_5) dX3_area_69 (fun H locs hw => ?_)
  obtain ⟨τ4, eτ4⟩ : ∃ zz : sS, va_up σ (5 + 8 * 0 + k) (upd (σ (5 + 8 * 0 + k)) 0 x) = zz := ⟨_, rfl⟩
  rw [eτ4] at hw
  refine lv_iload_n hx hb dX3_area_72 rfl (lv_at hl 0 rfl) ?_
  exact se_i hx hb hr hlocks hw (by subst eτ4; exact rfl) (by subst eτ4; exact rfl) dX3_area_73
theorem mX3_gate_0 : (Cond.fieldLink RX3 10 "SaltRow" "row" "LSaltRow$Row;") ∈ wsX3_gate := by decide +kernel
theorem iX3_gate_X3 : ∀ w ∈ wsX30, w ∈ wsX3_gate := by decide +kernel
theorem mX3_gate_2 : (Cond.fieldLink RX3 46 "SaltRow$Row" "ponds" "[LSaltRow$Pond;") ∈ wsX3_gate := by decide +kernel
theorem iX3_gate_X2 : ∀ w ∈ wsX20, w ∈ wsX3_gate := by decide +kernel
theorem mX3_gate_4 : (Cond.fieldLink RX3 55 "SaltRow$Pond" "isOpen" "Z") ∈ wsX3_gate := by decide +kernel
theorem iX3_gate_X1 : ∀ w ∈ wsX10, w ∈ wsX3_gate := by decide +kernel
set_option maxHeartbeats 4000000 in
set_option maxRecDepth 100000 in
theorem zX3_gate (l : Launch) (D : va_G) (a : Nat → Nat) (cs : Nat → ClassId) (σ : sS) (k : Nat) (hk : k < 8) (x : Int32) (hzx : x = 0 ∨ x = 1) (hzo : σ (5 + 8 * 0 + k) 9 = 0 ∨ σ (5 + 8 * 0 + k) 9 = 1) : sMi l yX3_gate wsX3_gate ({ frames := 1, cells := 0, slots := 0, locals := 21 }) D a cs [.ref (a 0), .int (nI k), .int x] σ (σ (5 + 8 * 0 + k) 9) (va_up σ (5 + 8 * 0 + k) (upd (σ (5 + 8 * 0 + k)) 9 x)) := by
  intro sz
  refine Met.ofW (cc := cX3_gate) (maxL := 4) (ret := (some .boolean)) (by decide) rfl ?_
  intro p e s m args below meth c s₁ B hml hv
  obtain ⟨rfl, hsz, hv2⟩ := hv
  have hv3 : sB D a cs σ sz s := ⟨hsz, hv2⟩
  subst hsz
  have hw := sH_start hv3
  obtain ⟨-, -, hK, -, hN⟩ := hv3
  have hx := B.exec
  have hb := B.bytes
  have hr := B.returns
  have hts := atoms_spec (ws := wsX3_gate) B.pre
  have hown : s.vm.findClass RX3 = some m.cls := findClass_of_methodNamed B.named
  have hlocks := B.notSynchronized
  have hA : ∀ q : Nat, s.heap.size ≤ q → sA a s.heap.size q := sA_new
  have hl := lv_entry ([.ref (a 0), .int (nI k), .int x]) (n := 4) (Nat.le_of_ble_eq_true rfl)
  rw [lg_entry_eq]
  generalize (lg_sl ([.ref (a 0), .int (nI k), .int x]) ++ List.replicate (4 - (lg_sl ([.ref (a 0), .int (nI k), .int x])).length) Slot.unset).toArray = ls at hl ⊢
  have hl : lv_has ls 4 [(0, .ref (a 0)), (1, .int (nI k)), (2, .int x)] := hl
  refine lv_aload_n hx hb dX3_gate_0 rfl (lv_at hl 0 rfl) ?_
  refine lv_iload_n hx hb dX3_gate_1 rfl (lv_at hl 1 rfl) ?_
  refine sc_v (sr_V (i := 0) (As := [.int (nI k)]) (rest := []) ⟨hx, hb, hml, hown, hts⟩ (zX3_needPond l D a cs _ k (by omega) _) (cwV 1 hts gX3_gate_X3_needPond rfl rfl rfl (by decide +kernel) ⟨Nat.le_of_ble_eq_true rfl, Nat.le_of_ble_eq_true rfl⟩) hK hN hw (by omega) sE_o kcX3 rfl hl.1 (Nat.le_of_ble_eq_true rfl) dX3_gate_2 ⟨Nat.le_of_ble_eq_true rfl, Nat.le_of_ble_eq_true rfl⟩) hw hA (fun H locs hw => ?_)
  refine lv_aload_n hx hb dX3_gate_5 rfl (lv_at hl 0 rfl) ?_
  refine sg_oq hx hb hts iX3_gate_X3 hown hK hw 0 (Or.inl ⟨rfl, rfl⟩) (hts _ mX3_gate_0) dX3_gate_6 ?_
  refine sg_rq (r := 0) hx hb hts iX3_gate_X2 hown hK hw (by omega) (hts _ mX3_gate_2) dX3_gate_9 ?_
  refine lv_iload_n hx hb dX3_gate_12 rfl (lv_at hl 1 rfl) ?_
  refine sg_q (r := 0) (k := k) hx hb hK hw (by omega) (by omega) rfl dX3_gate_13 ?_
  refine sg_p hx hb hts iX3_gate_X1 hown hK hw (by omega) 9 (by decide) (hts _ mX3_gate_4) dX3_gate_14 ?_
  refine lv_istore_n (lv' := [(3, .int (σ (5 + 8 * 0 + k) 9)), (0, .ref (a 0)), (1, .int (nI k)), (2, .int x)]) hx hb dX3_gate_17 rfl hl (by decide) rfl (fun ls hl => ?_)
  refine lv_aload_n hx hb dX3_gate_18 rfl (lv_at hl 1 rfl) ?_
  refine sg_oq hx hb hts iX3_gate_X3 hown hK hw 0 (Or.inl ⟨rfl, rfl⟩) (hts _ mX3_gate_0) dX3_gate_19 ?_
  refine sg_rq (r := 0) hx hb hts iX3_gate_X2 hown hK hw (by omega) (hts _ mX3_gate_2) dX3_gate_22 ?_
  refine lv_iload_n hx hb dX3_gate_25 rfl (lv_at hl 2 rfl) ?_
  refine sg_q (r := 0) (k := k) hx hb hK hw (by omega) (by omega) rfl dX3_gate_26 ?_
  refine lv_iload_n hx hb dX3_gate_27 rfl (lv_at hl 3 rfl) ?_
  refine sp_z hx hb hts iX3_gate_X1 hown hK hw (by omega) 9 hzx (by decide) (hts _ mX3_gate_4) dX3_gate_28 (fun H locs hw => ?_)
  obtain ⟨τ1, eτ1⟩ : ∃ zz : sS, va_up σ (5 + 8 * 0 + k) (upd (σ (5 + 8 * 0 + k)) 9 x) = zz := ⟨_, rfl⟩
  rw [eτ1] at hw
  refine lv_iload_n hx hb dX3_gate_31 rfl (lv_at hl 0 rfl) ?_
  exact se_z hx hb hr hlocks hw hzo (by subst eτ1; exact rfl) (by subst eτ1; exact rfl) dX3_gate_32
theorem mX3_skim_0 : (Cond.fieldLink RX3 10 "SaltRow" "row" "LSaltRow$Row;") ∈ wsX3_skim := by decide +kernel
theorem iX3_skim_X3 : ∀ w ∈ wsX30, w ∈ wsX3_skim := by decide +kernel
theorem mX3_skim_2 : (Cond.fieldLink RX3 46 "SaltRow$Row" "ponds" "[LSaltRow$Pond;") ∈ wsX3_skim := by decide +kernel
theorem iX3_skim_X2 : ∀ w ∈ wsX20, w ∈ wsX3_skim := by decide +kernel
theorem mX3_skim_4 : (Cond.fieldLink RX3 83 "SaltRow$Pond" "fresh" "I") ∈ wsX3_skim := by decide +kernel
theorem iX3_skim_X1 : ∀ w ∈ wsX10, w ∈ wsX3_skim := by decide +kernel
theorem mX3_skim_6 : (Cond.fieldLink RX3 86 "SaltRow" "skimmed" "I") ∈ wsX3_skim := by decide +kernel
set_option maxHeartbeats 4000000 in
set_option maxRecDepth 100000 in
theorem zX3_skim (l : Launch) (D : va_G) (a : Nat → Nat) (cs : Nat → ClassId) (σ : sS) (k : Nat) (hk : k < 8) : sMi l yX3_skim wsX3_skim ({ frames := 1, cells := 0, slots := 0, locals := 21 }) D a cs [.ref (a 0), .int (nI k)] σ (σ (5 + 8 * 0 + k) 5) (f_X3_skim σ k) := by
  intro sz
  refine Met.ofW (cc := cX3_skim) (maxL := 3) (ret := (some .int)) (by decide) rfl ?_
  intro p e s m args below meth c s₁ B hml hv
  obtain ⟨rfl, hsz, hv2⟩ := hv
  have hv3 : sB D a cs σ sz s := ⟨hsz, hv2⟩
  subst hsz
  have hw := sH_start hv3
  obtain ⟨-, -, hK, -, hN⟩ := hv3
  have hx := B.exec
  have hb := B.bytes
  have hr := B.returns
  have hts := atoms_spec (ws := wsX3_skim) B.pre
  have hown : s.vm.findClass RX3 = some m.cls := findClass_of_methodNamed B.named
  have hlocks := B.notSynchronized
  have hA : ∀ q : Nat, s.heap.size ≤ q → sA a s.heap.size q := sA_new
  have hl := lv_entry ([.ref (a 0), .int (nI k)]) (n := 3) (Nat.le_of_ble_eq_true rfl)
  rw [lg_entry_eq]
  generalize (lg_sl ([.ref (a 0), .int (nI k)]) ++ List.replicate (3 - (lg_sl ([.ref (a 0), .int (nI k)])).length) Slot.unset).toArray = ls at hl ⊢
  have hl : lv_has ls 3 [(0, .ref (a 0)), (1, .int (nI k))] := hl
  refine lv_aload_n hx hb dX3_skim_0 rfl (lv_at hl 0 rfl) ?_
  refine lv_iload_n hx hb dX3_skim_1 rfl (lv_at hl 1 rfl) ?_
  refine sc_v (sr_V (i := 0) (As := [.int (nI k)]) (rest := []) ⟨hx, hb, hml, hown, hts⟩ (zX3_needPond l D a cs _ k (by omega) _) (cwV 1 hts gX3_skim_X3_needPond rfl rfl rfl (by decide +kernel) ⟨Nat.le_of_ble_eq_true rfl, Nat.le_of_ble_eq_true rfl⟩) hK hN hw (by omega) sE_o kcX3 rfl hl.1 (Nat.le_of_ble_eq_true rfl) dX3_skim_2 ⟨Nat.le_of_ble_eq_true rfl, Nat.le_of_ble_eq_true rfl⟩) hw hA (fun H locs hw => ?_)
  refine lv_aload_n hx hb dX3_skim_5 rfl (lv_at hl 0 rfl) ?_
  refine sg_oq hx hb hts iX3_skim_X3 hown hK hw 0 (Or.inl ⟨rfl, rfl⟩) (hts _ mX3_skim_0) dX3_skim_6 ?_
  refine sg_rq (r := 0) hx hb hts iX3_skim_X2 hown hK hw (by omega) (hts _ mX3_skim_2) dX3_skim_9 ?_
  refine lv_iload_n hx hb dX3_skim_12 rfl (lv_at hl 1 rfl) ?_
  refine sg_q (r := 0) (k := k) hx hb hK hw (by omega) (by omega) rfl dX3_skim_13 ?_
  refine sg_p hx hb hts iX3_skim_X1 hown hK hw (by omega) 5 (by decide) (hts _ mX3_skim_4) dX3_skim_14 ?_
  refine lv_istore_n (lv' := [(2, .int (σ (5 + 8 * 0 + k) 5)), (0, .ref (a 0)), (1, .int (nI k))]) hx hb dX3_skim_17 rfl hl (by decide) rfl (fun ls hl => ?_)
  refine lv_aload_n hx hb dX3_skim_18 rfl (lv_at hl 1 rfl) ?_
  refine sg_oq hx hb hts iX3_skim_X3 hown hK hw 0 (Or.inl ⟨rfl, rfl⟩) (hts _ mX3_skim_0) dX3_skim_19 ?_
  refine sg_rq (r := 0) hx hb hts iX3_skim_X2 hown hK hw (by omega) (hts _ mX3_skim_2) dX3_skim_22 ?_
  refine lv_iload_n hx hb dX3_skim_25 rfl (lv_at hl 2 rfl) ?_
  refine sg_q (r := 0) (k := k) hx hb hK hw (by omega) (by omega) rfl dX3_skim_26 ?_
  refine lv_iconst (v := 0) hx hb dX3_skim_27 (by decide) ?_
  refine sp_p hx hb hts iX3_skim_X1 hown hK hw (by omega) 5 (by decide) (hts _ mX3_skim_4) dX3_skim_28 (fun H locs hw => ?_)
  obtain ⟨τ1, eτ1⟩ : ∃ zz : sS, va_up σ (5 + 8 * 0 + k) (upd (σ (5 + 8 * 0 + k)) 5 0) = zz := ⟨_, rfl⟩
  rw [eτ1] at hw
  refine lv_aload_n hx hb dX3_skim_31 rfl (lv_at hl 1 rfl) ?_
  refine lv_dup hx hb dX3_skim_32 rfl ?_
  refine sg_o hx hb hts iX3_skim_X3 hown hK hw 4 (by decide) (hts _ mX3_skim_6) dX3_skim_33 ?_
  refine lv_iload_n hx hb dX3_skim_36 rfl (lv_at hl 0 rfl) ?_
  refine lv_iadd hx hb dX3_skim_37 ?_
  refine lw_topi (fun x2 ex2 => ?_)
  refine sp_o hx hb hts iX3_skim_X3 hown hK hw 4 (by decide) (hts _ mX3_skim_6) dX3_skim_38 (fun H locs hw => ?_)
  obtain ⟨τ3, eτ3⟩ : ∃ zz : sS, va_up τ1 0 (upd (τ1 0) 4 x2) = zz := ⟨_, rfl⟩
  rw [eτ3] at hw
  refine lv_iload_n hx hb dX3_skim_41 rfl (lv_at hl 0 rfl) ?_
  exact se_i hx hb hr hlocks hw (by subst eτ3 ex2 eτ1; exact rfl) (by subst eτ3 ex2 eτ1; exact rfl) dX3_skim_42
theorem mX3_family_0 : (Cond.fieldLink RX3 129 "SaltRow" "familyCount" "I") ∈ wsX3_family := by decide +kernel
theorem iX3_family_X3 : ∀ w ∈ wsX30, w ∈ wsX3_family := by decide +kernel
set_option maxHeartbeats 4000000 in
set_option maxRecDepth 100000 in
theorem zX3_family (l : Launch) (D : va_G) (a : Nat → Nat) (cs : Nat → ClassId) (σ : sS) (hc : σ 0 3 < 6) : sMi l yX3_family wsX3_family ({ frames := 0, cells := 0, slots := 0, locals := 0 }) D a cs [.ref (a 0)] σ (f_X3_familyV σ) (va_up σ 0 (upd (σ 0) 3 (σ 0 3 + 1))) := by
  intro sz
  refine Met.ofW (cc := cX3_family) (maxL := 1) (ret := (some .int)) (by decide) rfl ?_
  intro p e s m args below meth c s₁ B hml hv
  obtain ⟨rfl, hsz, hv2⟩ := hv
  have hv3 : sB D a cs σ sz s := ⟨hsz, hv2⟩
  subst hsz
  have hw := sH_start hv3
  obtain ⟨-, -, hK, -, hN⟩ := hv3
  have hx := B.exec
  have hb := B.bytes
  have hr := B.returns
  have hts := atoms_spec (ws := wsX3_family) B.pre
  have hown : s.vm.findClass RX3 = some m.cls := findClass_of_methodNamed B.named
  have hlocks := B.notSynchronized
  have hA : ∀ q : Nat, s.heap.size ≤ q → sA a s.heap.size q := sA_new
  have hl := lv_entry ([.ref (a 0)]) (n := 1) (Nat.le_of_ble_eq_true rfl)
  rw [lg_entry_eq]
  generalize (lg_sl ([.ref (a 0)]) ++ List.replicate (1 - (lg_sl ([.ref (a 0)])).length) Slot.unset).toArray = ls at hl ⊢
  have hl : lv_has ls 1 [(0, .ref (a 0))] := hl
  refine lv_aload_n hx hb dX3_family_0 rfl (lv_at hl 0 rfl) ?_
  refine sg_o hx hb hts iX3_family_X3 hown hK hw 3 (by decide) (hts _ mX3_family_0) dX3_family_1 ?_
  refine lv_bipush (v := 6) hx hb dX3_family_4 (by decide) ?_
  refine lv_icmp_lt (tgt := 19) hx hb dX3_family_6 (by decide) (fun c1 => ?_) (fun c1 => absurd hc c1)
  refine lv_aload_n hx hb dX3_family_19 rfl (lv_at hl 0 rfl) ?_
  refine lv_dup hx hb dX3_family_20 rfl ?_
  refine sg_o hx hb hts iX3_family_X3 hown hK hw 3 (by decide) (hts _ mX3_family_0) dX3_family_21 ?_
  refine lv_iconst (v := 1) hx hb dX3_family_24 (by decide) ?_
  refine lv_iadd hx hb dX3_family_25 ?_
  refine sp_o hx hb hts iX3_family_X3 hown hK hw 3 (by decide) (hts _ mX3_family_0) dX3_family_26 (fun H locs hw => ?_)
  obtain ⟨τ2, eτ2⟩ : ∃ zz : sS, va_up σ 0 (upd (σ 0) 3 ((σ 0 3) + 1)) = zz := ⟨_, rfl⟩
  rw [eτ2] at hw
  refine lv_aload_n hx hb dX3_family_29 rfl (lv_at hl 0 rfl) ?_
  refine sg_o hx hb hts iX3_family_X3 hown hK hw 3 (by decide) (hts _ mX3_family_0) dX3_family_30 ?_
  refine lv_iconst (v := 1) hx hb dX3_family_33 (by decide) ?_
  refine lv_isub hx hb dX3_family_34 ?_
  exact se_i hx hb hr hlocks hw (by subst eτ2; exact rfl) (by subst eτ2; exact rfl) dX3_family_35
theorem mX3_rightsIn_0 : (Cond.fieldLink RX3 129 "SaltRow" "familyCount" "I") ∈ wsX3_rightsIn := by decide +kernel
theorem iX3_rightsIn_X3 : ∀ w ∈ wsX30, w ∈ wsX3_rightsIn := by decide +kernel
theorem mX3_rightsIn_2 : (Cond.fieldLink RX3 21 "SaltRow" "families" "[LSaltRow$Family;") ∈ wsX3_rightsIn := by decide +kernel
theorem mX3_rightsIn_3 : (Cond.fieldLink RX3 139 "SaltRow$Family" "rights" "[I") ∈ wsX3_rightsIn := by decide +kernel
theorem iX3_rightsIn_X0 : ∀ w ∈ wsX00, w ∈ wsX3_rightsIn := by decide +kernel
set_option maxHeartbeats 4000000 in
set_option maxRecDepth 100000 in
theorem zX3_rightsIn (l : Launch) (D : va_G) (a : Nat → Nat) (cs : Nat → ClassId) (σ : sS) (fc : Nat) (hfc : fc ≤ 6) (hc : σ 0 3 = nI fc) (q : Nat) (hq : q < 3) : sMi l yX3_rightsIn wsX3_rightsIn ({ frames := 0, cells := 0, slots := 0, locals := 0 }) D a cs [.ref (a 0), .int (nI (5 + q))] σ (f_X3_rightsIn σ q fc) σ := by
  intro sz
  refine Met.ofW (cc := cX3_rightsIn) (maxL := 4) (ret := (some .int)) (by decide) rfl ?_
  intro p e s m args below meth c s₁ B hml hv
  obtain ⟨rfl, hsz, hv2⟩ := hv
  have hv3 : sB D a cs σ sz s := ⟨hsz, hv2⟩
  subst hsz
  have hw := sH_start hv3
  obtain ⟨-, -, hK, -, hN⟩ := hv3
  have hx := B.exec
  have hb := B.bytes
  have hr := B.returns
  have hts := atoms_spec (ws := wsX3_rightsIn) B.pre
  have hown : s.vm.findClass RX3 = some m.cls := findClass_of_methodNamed B.named
  have hlocks := B.notSynchronized
  have hA : ∀ q : Nat, s.heap.size ≤ q → sA a s.heap.size q := sA_new
  have hl := lv_entry ([.ref (a 0), .int (nI (5 + q))]) (n := 4) (Nat.le_of_ble_eq_true rfl)
  rw [lg_entry_eq]
  generalize (lg_sl ([.ref (a 0), .int (nI (5 + q))]) ++ List.replicate (4 - (lg_sl ([.ref (a 0), .int (nI (5 + q))])).length) Slot.unset).toArray = ls at hl ⊢
  have hl : lv_has ls 4 [(0, .ref (a 0)), (1, .int (nI (5 + q)))] := hl
  refine lv_iconst (v := 0) hx hb dX3_rightsIn_0 (by decide) ?_
  refine lv_istore_n (lv' := [(2, .int 0), (0, .ref (a 0)), (1, .int (nI (5 + q)))]) hx hb dX3_rightsIn_1 rfl hl (by decide) rfl (fun ls hl => ?_)
  refine lv_iconst (v := 0) hx hb dX3_rightsIn_2 (by decide) ?_
  refine lv_istore_n (lv' := [(3, .int 0), (2, .int 0), (0, .ref (a 0)), (1, .int (nI (5 + q)))]) hx hb dX3_rightsIn_3 rfl hl (by decide) rfl (fun ls hl => ?_)
  have loop : ∀ (Q : State → Prop) (n : Nat) (k : Nat) (τ : sS) (v : Int32) (H : Heap) (locs : List Loc) (ls : Array Slot), k + n = fc ∧ τ 0 3 = nI fc → sH D a cs (sA a s.heap.size) s.heap τ H locs → lv_has ls 4 [(0, .ref (a 0)), (1, .int (nI (5 + q))), (2, .int v), (3, .int (nI k))] → (∀ (H : Heap) (locs : List Loc) (ls : Array Slot), sH D a cs (sA a s.heap.size) s.heap (τ) H locs → lv_has ls 4 [(2, .int (f_X3_rsum q τ n k v))] → W p l e { frames := 0, cells := 0, slots := 0, locals := 0 } s m #[Value.ref (a 0), Value.int (nI (5 + q))] below meth c H locs 0 0 Q (F0 m 34 ls [])) → W p l e { frames := 0, cells := 0, slots := 0, locals := 0 } s m #[Value.ref (a 0), Value.int (nI (5 + q))] below meth c H locs 0 0 Q (F0 m 4 ls []) := by
    intro Q n
    induction n with
    | zero =>
      intro k τ v H locs ls hkn hw hl kont
      refine lv_iload_n hx hb dX3_rightsIn_4 rfl (lv_at hl 3 rfl) ?_
      refine lv_aload_n hx hb dX3_rightsIn_5 rfl (lv_at hl 0 rfl) ?_
      refine sg_o hx hb hts iX3_rightsIn_X3 hown hK hw 3 (by decide) (hts _ mX3_rightsIn_0) dX3_rightsIn_6 ?_
      refine lv_icmp_ge (tgt := 34) hx hb dX3_rightsIn_9 (by decide) (fun c1 => ?_) (fun c1 => absurd (by rw [hkn.2, show k = fc by omega]; exact Int32.le_refl _) c1)
      exact kont H locs ls hw (lv_sub hl [2] rfl)
    | succ n ih =>
      intro k τ v H locs ls hkn hw hl kont
      refine lv_iload_n hx hb dX3_rightsIn_4 rfl (lv_at hl 3 rfl) ?_
      refine lv_aload_n hx hb dX3_rightsIn_5 rfl (lv_at hl 0 rfl) ?_
      refine sg_o hx hb hts iX3_rightsIn_X3 hown hK hw 3 (by decide) (hts _ mX3_rightsIn_0) dX3_rightsIn_6 ?_
      refine lv_icmp_ge (tgt := 34) hx hb dX3_rightsIn_9 (by decide) (fun c2 => absurd c2 (by rw [hkn.2]; exact nI_ge (by omega) (by omega))) (fun c2 => ?_)
      refine lv_iload_n hx hb dX3_rightsIn_12 rfl (lv_at hl 2 rfl) ?_
      refine lv_aload_n hx hb dX3_rightsIn_13 rfl (lv_at hl 0 rfl) ?_
      refine sg_oq hx hb hts iX3_rightsIn_X3 hown hK hw 2 (Or.inr (Or.inr ⟨rfl, rfl⟩)) (hts _ mX3_rightsIn_2) dX3_rightsIn_14 ?_
      refine lv_iload_n hx hb dX3_rightsIn_17 rfl (lv_at hl 3 rfl) ?_
      refine sg_g (k := k) hx hb hK hw (by omega) rfl dX3_rightsIn_18 ?_
      refine sg_fq (j := k) hx hb hts iX3_rightsIn_X0 hown hK hw (by omega) (hts _ mX3_rightsIn_3) dX3_rightsIn_19 ?_
      refine lv_iload_n hx hb dX3_rightsIn_22 rfl (lv_at hl 1 rfl) ?_
      refine lv_iconst (v := 5) hx hb dX3_rightsIn_23 (by decide) ?_
      refine lv_isub hx hb dX3_rightsIn_24 ?_
      refine sg_h (j := k) (k := q) hx hb hK hw (by omega) (by omega) (nI_sub5 q) dX3_rightsIn_25 ?_
      refine lv_iadd hx hb dX3_rightsIn_26 ?_
      refine lv_istore_n (lv' := [(2, .int (v + (τ (28 + k) q))), (0, .ref (a 0)), (1, .int (nI (5 + q))), (3, .int (nI k))]) hx hb dX3_rightsIn_27 rfl hl (by decide) rfl (fun ls hl => ?_)
      refine lv_iinc (v := nI (k + 1)) (lv' := [(3, .int (nI (k + 1))), (2, .int (v + (τ (28 + k) q))), (0, .ref (a 0)), (1, .int (nI (5 + q)))]) hx hb dX3_rightsIn_28 hl (k := 3) rfl (nI_1 k) (by decide) rfl (fun ls hl => ?_)
      refine lv_goto (tgt := 4) hx hb dX3_rightsIn_31 (by decide) ?_
      have hstep : τ = τ := by
        rfl
      have hval0 : f_X3_rsum q τ (n + 1) k v = f_X3_rsum q τ n (k + 1) (v + (τ (28 + k) q)) := by
        rfl
      exact ih (k + 1) τ (v + (τ (28 + k) q)) H locs ls ⟨by omega, hkn.2⟩ hw (lv_sub hl [2, 3, 1, 0] rfl) (fun H locs ls hw hl => kont H locs ls (by rw [hstep]; exact hw) (by rw [hval0]; exact hl))
  refine loop _ fc 0 σ 0 _ _ _ ⟨Nat.zero_add fc, hc⟩ hw (lv_sub hl [2, 3, 1, 0] rfl) (fun H locs ls hw hl => ?_)
  obtain ⟨τ3, eτ3⟩ : ∃ zz : sS, σ = zz := ⟨_, rfl⟩
  rw [eτ3] at hw
  refine lv_iload_n hx hb dX3_rightsIn_34 rfl (lv_at hl 0 rfl) ?_
  exact se_i hx hb hr hlocks hw (by subst eτ3; exact rfl) (by subst eτ3; rfl) dX3_rightsIn_35
theorem mX3_sumOfFamilies_0 : (Cond.fieldLink RX3 129 "SaltRow" "familyCount" "I") ∈ wsX3_sumOfFamilies := by decide +kernel
theorem iX3_sumOfFamilies_X3 : ∀ w ∈ wsX30, w ∈ wsX3_sumOfFamilies := by decide +kernel
theorem mX3_sumOfFamilies_2 : (Cond.fieldLink RX3 21 "SaltRow" "families" "[LSaltRow$Family;") ∈ wsX3_sumOfFamilies := by decide +kernel
set_option maxHeartbeats 4000000 in
set_option maxRecDepth 100000 in
theorem zX3_sumOfFamilies (l : Launch) (D : va_G) (a : Nat → Nat) (cs : Nat → ClassId) (σ : sS) (fc : Nat) (hfc : fc ≤ 6) (hc : σ 0 3 = nI fc) (w : Nat) (hw6 : w < 6) : sMi l yX3_sumOfFamilies wsX3_sumOfFamilies ({ frames := 3, cells := 0, slots := 0, locals := 67 }) D a cs [.ref (a 0), .int (nI w)] σ (f_X3_sumOfFamilies σ w fc) σ := by
  intro sz
  refine Met.ofW (cc := cX3_sumOfFamilies) (maxL := 4) (ret := (some .int)) (by decide) rfl ?_
  intro p e s m args below meth c s₁ B hml hv
  obtain ⟨rfl, hsz, hv2⟩ := hv
  have hv3 : sB D a cs σ sz s := ⟨hsz, hv2⟩
  subst hsz
  have hw := sH_start hv3
  obtain ⟨-, -, hK, -, hN⟩ := hv3
  have hx := B.exec
  have hb := B.bytes
  have hr := B.returns
  have hts := atoms_spec (ws := wsX3_sumOfFamilies) B.pre
  have hown : s.vm.findClass RX3 = some m.cls := findClass_of_methodNamed B.named
  have hlocks := B.notSynchronized
  have hA : ∀ q : Nat, s.heap.size ≤ q → sA a s.heap.size q := sA_new
  have hl := lv_entry ([.ref (a 0), .int (nI w)]) (n := 4) (Nat.le_of_ble_eq_true rfl)
  rw [lg_entry_eq]
  generalize (lg_sl ([.ref (a 0), .int (nI w)]) ++ List.replicate (4 - (lg_sl ([.ref (a 0), .int (nI w)])).length) Slot.unset).toArray = ls at hl ⊢
  have hl : lv_has ls 4 [(0, .ref (a 0)), (1, .int (nI w))] := hl
  refine lv_iconst (v := 0) hx hb dX3_sumOfFamilies_0 (by decide) ?_
  refine lv_istore_n (lv' := [(2, .int 0), (0, .ref (a 0)), (1, .int (nI w))]) hx hb dX3_sumOfFamilies_1 rfl hl (by decide) rfl (fun ls hl => ?_)
  refine lv_iconst (v := 0) hx hb dX3_sumOfFamilies_2 (by decide) ?_
  refine lv_istore_n (lv' := [(3, .int 0), (2, .int 0), (0, .ref (a 0)), (1, .int (nI w))]) hx hb dX3_sumOfFamilies_3 rfl hl (by decide) rfl (fun ls hl => ?_)
  have loop : ∀ (Q : State → Prop) (n : Nat) (k : Nat) (τ : sS) (v : Int32) (H : Heap) (locs : List Loc) (ls : Array Slot), k + n = fc ∧ τ 0 3 = nI fc → sH D a cs (sA a s.heap.size) s.heap τ H locs → lv_has ls 4 [(0, .ref (a 0)), (1, .int (nI w)), (2, .int v), (3, .int (nI k))] → (∀ (H : Heap) (locs : List Loc) (ls : Array Slot), sH D a cs (sA a s.heap.size) s.heap (τ) H locs → lv_has ls 4 [(2, .int (f_X3_hsum w τ n k v))] → W p l e { frames := 3, cells := 0, slots := 0, locals := 67 } s m #[Value.ref (a 0), Value.int (nI w)] below meth c H locs 0 0 Q (F0 m 31 ls [])) → W p l e { frames := 3, cells := 0, slots := 0, locals := 67 } s m #[Value.ref (a 0), Value.int (nI w)] below meth c H locs 0 0 Q (F0 m 4 ls []) := by
    intro Q n
    induction n with
    | zero =>
      intro k τ v H locs ls hkn hw hl kont
      refine lv_iload_n hx hb dX3_sumOfFamilies_4 rfl (lv_at hl 3 rfl) ?_
      refine lv_aload_n hx hb dX3_sumOfFamilies_5 rfl (lv_at hl 0 rfl) ?_
      refine sg_o hx hb hts iX3_sumOfFamilies_X3 hown hK hw 3 (by decide) (hts _ mX3_sumOfFamilies_0) dX3_sumOfFamilies_6 ?_
      refine lv_icmp_ge (tgt := 31) hx hb dX3_sumOfFamilies_9 (by decide) (fun c1 => ?_) (fun c1 => absurd (by rw [hkn.2, show k = fc by omega]; exact Int32.le_refl _) c1)
      exact kont H locs ls hw (lv_sub hl [2] rfl)
    | succ n ih =>
      intro k τ v H locs ls hkn hw hl kont
      refine lv_iload_n hx hb dX3_sumOfFamilies_4 rfl (lv_at hl 3 rfl) ?_
      refine lv_aload_n hx hb dX3_sumOfFamilies_5 rfl (lv_at hl 0 rfl) ?_
      refine sg_o hx hb hts iX3_sumOfFamilies_X3 hown hK hw 3 (by decide) (hts _ mX3_sumOfFamilies_0) dX3_sumOfFamilies_6 ?_
      refine lv_icmp_ge (tgt := 31) hx hb dX3_sumOfFamilies_9 (by decide) (fun c2 => absurd c2 (by rw [hkn.2]; exact nI_ge (by omega) (by omega))) (fun c2 => ?_)
      refine lv_iload_n hx hb dX3_sumOfFamilies_12 rfl (lv_at hl 2 rfl) ?_
      refine lv_aload_n hx hb dX3_sumOfFamilies_13 rfl (lv_at hl 0 rfl) ?_
      refine sg_oq hx hb hts iX3_sumOfFamilies_X3 hown hK hw 2 (Or.inr (Or.inr ⟨rfl, rfl⟩)) (hts _ mX3_sumOfFamilies_2) dX3_sumOfFamilies_14 ?_
      refine lv_iload_n hx hb dX3_sumOfFamilies_17 rfl (lv_at hl 3 rfl) ?_
      refine sg_g (k := k) hx hb hK hw (by omega) rfl dX3_sumOfFamilies_18 ?_
      refine lv_iload_n hx hb dX3_sumOfFamilies_19 rfl (lv_at hl 1 rfl) ?_
      refine sc_i (sr_V (i := 22 + k) (As := [.int (nI w)]) (rest := [.int v]) ⟨hx, hb, hml, hown, hts⟩ (zX0_read l D a cs _ k (by omega) w (by omega) _) (cwV 1 hts gX3_sumOfFamilies_X0_read rfl rfl rfl (by decide +kernel) ⟨Nat.le_of_ble_eq_true rfl, Nat.le_of_ble_eq_true rfl⟩) hK hN hw (by omega) (sE_f (by omega)) kcX0 rfl hl.1 (Nat.le_of_ble_eq_true rfl) dX3_sumOfFamilies_20 ⟨Nat.le_of_ble_eq_true rfl, Nat.le_of_ble_eq_true rfl⟩) hw hA (fun H locs hw => ?_)
      refine lv_iadd hx hb dX3_sumOfFamilies_23 ?_
      refine lw_topi (fun x3 ex3 => ?_)
      refine lv_istore_n (lv' := [(2, .int x3), (0, .ref (a 0)), (1, .int (nI w)), (3, .int (nI k))]) hx hb dX3_sumOfFamilies_24 rfl hl (by decide) rfl (fun ls hl => ?_)
      refine lv_iinc (v := nI (k + 1)) (lv' := [(3, .int (nI (k + 1))), (2, .int x3), (0, .ref (a 0)), (1, .int (nI w))]) hx hb dX3_sumOfFamilies_25 hl (k := 3) rfl (nI_1 k) (by decide) rfl (fun ls hl => ?_)
      refine lv_goto (tgt := 4) hx hb dX3_sumOfFamilies_28 (by decide) ?_
      have hstep : τ = τ := by
        subst ex3; rfl
      have hval0 : f_X3_hsum w τ (n + 1) k v = f_X3_hsum w τ n (k + 1) x3 := by
        subst ex3; rfl
      exact ih (k + 1) τ x3 H locs ls ⟨by omega, hkn.2⟩ hw (lv_sub hl [2, 3, 1, 0] rfl) (fun H locs ls hw hl => kont H locs ls (by rw [hstep]; exact hw) (by rw [hval0]; exact hl))
  refine loop _ fc 0 σ 0 _ _ _ ⟨Nat.zero_add fc, hc⟩ hw (lv_sub hl [2, 3, 1, 0] rfl) (fun H locs ls hw hl => ?_)
  obtain ⟨τ4, eτ4⟩ : ∃ zz : sS, σ = zz := ⟨_, rfl⟩
  rw [eτ4] at hw
  refine lv_iload_n hx hb dX3_sumOfFamilies_31 rfl (lv_at hl 0 rfl) ?_
  exact se_i hx hb hr hlocks hw (by subst eτ4; exact rfl) (by subst eτ4; rfl) dX3_sumOfFamilies_32
theorem mX3_right_0 : (Cond.fieldLink RX3 21 "SaltRow" "families" "[LSaltRow$Family;") ∈ wsX3_right := by decide +kernel
theorem iX3_right_X3 : ∀ w ∈ wsX30, w ∈ wsX3_right := by decide +kernel
theorem mX3_right_2 : (Cond.fieldLink RX3 139 "SaltRow$Family" "rights" "[I") ∈ wsX3_right := by decide +kernel
theorem iX3_right_X0 : ∀ w ∈ wsX00, w ∈ wsX3_right := by decide +kernel
set_option maxHeartbeats 4000000 in
set_option maxRecDepth 100000 in
theorem zX3_right (l : Launch) (D : va_G) (a : Nat → Nat) (cs : Nat → ClassId) (σ : sS) (fc : Nat) (hfc : fc ≤ 6) (hc : σ 0 3 = nI fc) (j : Nat) (hj : j < fc) (q : Nat) (hq : q < 3) (x : Int32) (hx0 : ¬ x < 0) (hx12 : x ≤ 12) (hs : f_X3_rightsIn σ q fc - σ (28 + j) q + x ≤ 12) : sMi l yX3_right wsX3_right ({ frames := 1, cells := 0, slots := 0, locals := 23 }) D a cs [.ref (a 0), .int (nI j), .int (nI (5 + q)), .int x] σ (σ (28 + j) q) (va_up σ (28 + j) (upd (σ (28 + j)) q x)) := by
  intro sz
  refine Met.ofW (cc := cX3_right) (maxL := 5) (ret := (some .int)) (by decide) rfl ?_
  intro p e s m args below meth c s₁ B hml hv
  obtain ⟨rfl, hsz, hv2⟩ := hv
  have hv3 : sB D a cs σ sz s := ⟨hsz, hv2⟩
  subst hsz
  have hw := sH_start hv3
  obtain ⟨-, -, hK, -, hN⟩ := hv3
  have hx := B.exec
  have hb := B.bytes
  have hr := B.returns
  have hts := atoms_spec (ws := wsX3_right) B.pre
  have hown : s.vm.findClass RX3 = some m.cls := findClass_of_methodNamed B.named
  have hlocks := B.notSynchronized
  have hA : ∀ q : Nat, s.heap.size ≤ q → sA a s.heap.size q := sA_new
  have hl := lv_entry ([.ref (a 0), .int (nI j), .int (nI (5 + q)), .int x]) (n := 5) (Nat.le_of_ble_eq_true rfl)
  rw [lg_entry_eq]
  generalize (lg_sl ([.ref (a 0), .int (nI j), .int (nI (5 + q)), .int x]) ++ List.replicate (5 - (lg_sl ([.ref (a 0), .int (nI j), .int (nI (5 + q)), .int x])).length) Slot.unset).toArray = ls at hl ⊢
  have hl : lv_has ls 5 [(0, .ref (a 0)), (1, .int (nI j)), (2, .int (nI (5 + q))), (3, .int x)] := hl
  refine lv_aload_n hx hb dX3_right_0 rfl (lv_at hl 0 rfl) ?_
  refine lv_iload_n hx hb dX3_right_1 rfl (lv_at hl 1 rfl) ?_
  refine sc_v (sr_V (i := 0) (As := [.int (nI j)]) (rest := []) ⟨hx, hb, hml, hown, hts⟩ (zX3_needFamily l D a cs _ j (by omega) (by rw [hc]; exact nI_lt (by omega) (by omega)) _) (cwV 1 hts gX3_right_X3_needFamily rfl rfl rfl (by decide +kernel) ⟨Nat.le_of_ble_eq_true rfl, Nat.le_of_ble_eq_true rfl⟩) hK hN hw (by omega) sE_o kcX3 rfl hl.1 (Nat.le_of_ble_eq_true rfl) dX3_right_2 ⟨Nat.le_of_ble_eq_true rfl, Nat.le_of_ble_eq_true rfl⟩) hw hA (fun H locs hw => ?_)
  refine lv_aload_n hx hb dX3_right_5 rfl (lv_at hl 0 rfl) ?_
  refine lv_iload_n hx hb dX3_right_6 rfl (lv_at hl 2 rfl) ?_
  refine sc_v (sr_V (i := 0) (As := [.int (nI (5 + q))]) (rest := []) ⟨hx, hb, hml, hown, hts⟩ (zX3_needPan l D a cs _ q (by omega) _) (cwV 1 hts gX3_right_X3_needPan rfl rfl rfl (by decide +kernel) ⟨Nat.le_of_ble_eq_true rfl, Nat.le_of_ble_eq_true rfl⟩) hK hN hw (by omega) sE_o kcX3 rfl hl.1 (Nat.le_of_ble_eq_true rfl) dX3_right_7 ⟨Nat.le_of_ble_eq_true rfl, Nat.le_of_ble_eq_true rfl⟩) hw hA (fun H locs hw => ?_)
  refine lv_iload_n hx hb dX3_right_10 rfl (lv_at hl 3 rfl) ?_
  refine lv_if_lt (tgt := 20) hx hb dX3_right_11 (by decide) (fun c1 => absurd c1 hx0) (fun c1 => ?_)
  refine lv_iload_n hx hb dX3_right_14 rfl (lv_at hl 3 rfl) ?_
  refine lv_bipush (v := 12) hx hb dX3_right_15 (by decide) ?_
  refine lv_icmp_le (tgt := 30) hx hb dX3_right_17 (by decide) (fun c2 => ?_) (fun c2 => absurd hx12 c2)
  refine lv_aload_n hx hb dX3_right_30 rfl (lv_at hl 0 rfl) ?_
  refine sg_oq hx hb hts iX3_right_X3 hown hK hw 2 (Or.inr (Or.inr ⟨rfl, rfl⟩)) (hts _ mX3_right_0) dX3_right_31 ?_
  refine lv_iload_n hx hb dX3_right_34 rfl (lv_at hl 1 rfl) ?_
  refine sg_g (k := j) hx hb hK hw (by omega) rfl dX3_right_35 ?_
  refine sg_fq (j := j) hx hb hts iX3_right_X0 hown hK hw (by omega) (hts _ mX3_right_2) dX3_right_36 ?_
  refine lv_iload_n hx hb dX3_right_39 rfl (lv_at hl 2 rfl) ?_
  refine lv_iconst (v := 5) hx hb dX3_right_40 (by decide) ?_
  refine lv_isub hx hb dX3_right_41 ?_
  refine sg_h (j := j) (k := q) hx hb hK hw (by omega) (by omega) (nI_sub5 q) dX3_right_42 ?_
  refine lv_istore (lv' := [(4, .int (σ (28 + j) q)), (0, .ref (a 0)), (1, .int (nI j)), (2, .int (nI (5 + q))), (3, .int x)]) hx hb dX3_right_43 hl (by decide) rfl (fun ls hl => ?_)
  refine lv_aload_n hx hb dX3_right_45 rfl (lv_at hl 1 rfl) ?_
  refine lv_iload_n hx hb dX3_right_46 rfl (lv_at hl 3 rfl) ?_
  refine sc_i (sr_V (i := 0) (As := [.int (nI (5 + q))]) (rest := []) ⟨hx, hb, hml, hown, hts⟩ (zX3_rightsIn l D a cs _ fc hfc hc q hq _) (cwV 1 hts gX3_right_X3_rightsIn rfl rfl rfl (by decide +kernel) ⟨Nat.le_of_ble_eq_true rfl, Nat.le_of_ble_eq_true rfl⟩) hK hN hw (by omega) sE_o kcX3 rfl hl.1 (Nat.le_of_ble_eq_true rfl) dX3_right_47 ⟨Nat.le_of_ble_eq_true rfl, Nat.le_of_ble_eq_true rfl⟩) hw hA (fun H locs hw => ?_)
  refine lv_iload hx hb dX3_right_50 (lv_at hl 0 rfl) ?_
  refine lv_isub hx hb dX3_right_52 ?_
  refine lv_iload_n hx hb dX3_right_53 rfl (lv_at hl 4 rfl) ?_
  refine lv_iadd hx hb dX3_right_54 ?_
  refine lv_bipush (v := 12) hx hb dX3_right_55 (by decide) ?_
  refine lv_icmp_le (tgt := 70) hx hb dX3_right_57 (by decide) (fun c3 => ?_) (fun c3 => absurd hs c3)
  refine lv_aload_n hx hb dX3_right_70 rfl (lv_at hl 1 rfl) ?_
  refine sg_oq hx hb hts iX3_right_X3 hown hK hw 2 (Or.inr (Or.inr ⟨rfl, rfl⟩)) (hts _ mX3_right_0) dX3_right_71 ?_
  refine lv_iload_n hx hb dX3_right_74 rfl (lv_at hl 2 rfl) ?_
  refine sg_g (k := j) hx hb hK hw (by omega) rfl dX3_right_75 ?_
  refine sg_fq (j := j) hx hb hts iX3_right_X0 hown hK hw (by omega) (hts _ mX3_right_2) dX3_right_76 ?_
  refine lv_iload_n hx hb dX3_right_79 rfl (lv_at hl 3 rfl) ?_
  refine lv_iconst (v := 5) hx hb dX3_right_80 (by decide) ?_
  refine lv_isub hx hb dX3_right_81 ?_
  refine lv_iload_n hx hb dX3_right_82 rfl (lv_at hl 4 rfl) ?_
  refine sp_h (j := j) (k := q) hx hb hK hw (by omega) (by omega) (nI_sub5 q) dX3_right_83 (fun H locs hw => ?_)
  obtain ⟨τ4, eτ4⟩ : ∃ zz : sS, va_up σ (28 + j) (upd (σ (28 + j)) q x) = zz := ⟨_, rfl⟩
  rw [eτ4] at hw
  refine lv_iload hx hb dX3_right_84 (lv_at hl 0 rfl) ?_
  exact se_i hx hb hr hlocks hw (by subst eτ4; exact rfl) (by subst eτ4; exact rfl) dX3_right_86
theorem mX3_shareOut_0 : (Cond.fieldLink RX3 129 "SaltRow" "familyCount" "I") ∈ wsX3_shareOut := by decide +kernel
theorem iX3_shareOut_X3 : ∀ w ∈ wsX30, w ∈ wsX3_shareOut := by decide +kernel
theorem mX3_shareOut_2 : (Cond.fieldLink RX3 21 "SaltRow" "families" "[LSaltRow$Family;") ∈ wsX3_shareOut := by decide +kernel
theorem mX3_shareOut_3 : (Cond.fieldLink RX3 139 "SaltRow$Family" "rights" "[I") ∈ wsX3_shareOut := by decide +kernel
theorem iX3_shareOut_X0 : ∀ w ∈ wsX00, w ∈ wsX3_shareOut := by decide +kernel
theorem mX3_shareOut_5 : (Cond.constantLong RX3 267 (12)) ∈ wsX3_shareOut := by decide +kernel
theorem mX3_shareOut_6 : (Cond.fieldLink RX3 246 "SaltRow" "cloisterSalt" "I") ∈ wsX3_shareOut := by decide +kernel
theorem mX3_shareOut_7 : (Cond.fieldLink RX3 249 "SaltRow" "cloisterDirt" "I") ∈ wsX3_shareOut := by decide +kernel
set_option maxHeartbeats 4000000 in
set_option maxRecDepth 100000 in
theorem zX3_shareOut (l : Launch) (D : va_G) (a : Nat → Nat) (cs : Nat → ClassId) (σ : sS) (fc : Nat) (hfc : fc ≤ 6) (hc : σ 0 3 = nI fc) (q : Nat) (hq : q < 3) (x y : Int32) : sMv l yX3_shareOut wsX3_shareOut ({ frames := 1, cells := 0, slots := 0, locals := 25 }) D a cs [.ref (a 0), .int (nI (5 + q)), .int x, .int y] σ (f_X3_shareOut σ q fc x y) := by
  intro sz
  refine Met.ofW (cc := cX3_shareOut) (maxL := 10) (ret := none) (by decide) rfl ?_
  intro p e s m args below meth c s₁ B hml hv
  obtain ⟨rfl, hsz, hv2⟩ := hv
  have hv3 : sB D a cs σ sz s := ⟨hsz, hv2⟩
  subst hsz
  have hw := sH_start hv3
  obtain ⟨-, -, hK, -, hN⟩ := hv3
  have hx := B.exec
  have hb := B.bytes
  have hr := B.returns
  have hts := atoms_spec (ws := wsX3_shareOut) B.pre
  have hown : s.vm.findClass RX3 = some m.cls := findClass_of_methodNamed B.named
  have hlocks := B.notSynchronized
  have hA : ∀ q : Nat, s.heap.size ≤ q → sA a s.heap.size q := sA_new
  have hl := lv_entry ([.ref (a 0), .int (nI (5 + q)), .int x, .int y]) (n := 10) (Nat.le_of_ble_eq_true rfl)
  rw [lg_entry_eq]
  generalize (lg_sl ([.ref (a 0), .int (nI (5 + q)), .int x, .int y]) ++ List.replicate (10 - (lg_sl ([.ref (a 0), .int (nI (5 + q)), .int x, .int y])).length) Slot.unset).toArray = ls at hl ⊢
  have hl : lv_has ls 10 [(0, .ref (a 0)), (1, .int (nI (5 + q))), (2, .int x), (3, .int y)] := hl
  refine lv_iload_n hx hb dX3_shareOut_0 rfl (lv_at hl 2 rfl) ?_
  refine lv_istore (lv' := [(4, .int x), (0, .ref (a 0)), (1, .int (nI (5 + q))), (2, .int x), (3, .int y)]) hx hb dX3_shareOut_1 hl (by decide) rfl (fun ls hl => ?_)
  refine lv_iload_n hx hb dX3_shareOut_3 rfl (lv_at hl 4 rfl) ?_
  refine lv_istore (lv' := [(5, .int y), (4, .int x), (0, .ref (a 0)), (1, .int (nI (5 + q))), (2, .int x), (3, .int y)]) hx hb dX3_shareOut_4 hl (by decide) rfl (fun ls hl => ?_)
  refine lv_iconst (v := 0) hx hb dX3_shareOut_6 (by decide) ?_
  refine lv_istore (lv' := [(6, .int 0), (5, .int y), (4, .int x), (0, .ref (a 0)), (1, .int (nI (5 + q))), (2, .int x), (3, .int y)]) hx hb dX3_shareOut_7 hl (by decide) rfl (fun ls hl => ?_)
  have loop : ∀ (Q : State → Prop) (n : Nat) (k : Nat) (τ : sS) (v : Int32) (u : Int32) (H : Heap) (locs : List Loc) (ls : Array Slot), k + n = fc ∧ τ 0 3 = nI fc → sH D a cs (sA a s.heap.size) s.heap τ H locs → lv_has ls 10 [(0, .ref (a 0)), (1, .int (nI (5 + q))), (2, .int x), (3, .int y), (4, .int v), (5, .int u), (6, .int (nI k))] → (∀ (H : Heap) (locs : List Loc) (ls : Array Slot), sH D a cs (sA a s.heap.size) s.heap (f_X3_so q x y n k τ) H locs → lv_has ls 10 [(0, .ref (a 0)), (4, .int (f_X3_soS q x y n k τ v)), (5, .int (f_X3_soD q x y n k τ u))] → W p l e { frames := 1, cells := 0, slots := 0, locals := 25 } s m #[Value.ref (a 0), Value.int (nI (5 + q)), Value.int x, Value.int y] below meth c H locs 0 0 Q (F0 m 94 ls [])) → W p l e { frames := 1, cells := 0, slots := 0, locals := 25 } s m #[Value.ref (a 0), Value.int (nI (5 + q)), Value.int x, Value.int y] below meth c H locs 0 0 Q (F0 m 9 ls []) := by
    intro Q n
    induction n with
    | zero =>
      intro k τ v u H locs ls hkn hw hl kont
      refine lv_iload hx hb dX3_shareOut_9 (lv_at hl 6 rfl) ?_
      refine lv_aload_n hx hb dX3_shareOut_11 rfl (lv_at hl 0 rfl) ?_
      refine sg_o hx hb hts iX3_shareOut_X3 hown hK hw 3 (by decide) (hts _ mX3_shareOut_0) dX3_shareOut_12 ?_
      refine lv_icmp_ge (tgt := 94) hx hb dX3_shareOut_15 (by decide) (fun c1 => ?_) (fun c1 => absurd (by rw [hkn.2, show k = fc by omega]; exact Int32.le_refl _) c1)
      exact kont H locs ls hw (lv_sub hl [0, 4, 5] rfl)
    | succ n ih =>
      intro k τ v u H locs ls hkn hw hl kont
      refine lv_iload hx hb dX3_shareOut_9 (lv_at hl 6 rfl) ?_
      refine lv_aload_n hx hb dX3_shareOut_11 rfl (lv_at hl 0 rfl) ?_
      refine sg_o hx hb hts iX3_shareOut_X3 hown hK hw 3 (by decide) (hts _ mX3_shareOut_0) dX3_shareOut_12 ?_
      refine lv_icmp_ge (tgt := 94) hx hb dX3_shareOut_15 (by decide) (fun c2 => absurd c2 (by rw [hkn.2]; exact nI_ge (by omega) (by omega))) (fun c2 => ?_)
      refine lv_aload_n hx hb dX3_shareOut_18 rfl (lv_at hl 0 rfl) ?_
      refine sg_oq hx hb hts iX3_shareOut_X3 hown hK hw 2 (Or.inr (Or.inr ⟨rfl, rfl⟩)) (hts _ mX3_shareOut_2) dX3_shareOut_19 ?_
      refine lv_iload hx hb dX3_shareOut_22 (lv_at hl 6 rfl) ?_
      refine sg_g (k := k) hx hb hK hw (by omega) rfl dX3_shareOut_24 ?_
      refine sg_fq (j := k) hx hb hts iX3_shareOut_X0 hown hK hw (by omega) (hts _ mX3_shareOut_3) dX3_shareOut_25 ?_
      refine lv_iload_n hx hb dX3_shareOut_28 rfl (lv_at hl 1 rfl) ?_
      refine lv_iconst (v := 5) hx hb dX3_shareOut_29 (by decide) ?_
      refine lv_isub hx hb dX3_shareOut_30 ?_
      refine sg_h (j := k) (k := q) hx hb hK hw (by omega) (by omega) (nI_sub5 q) dX3_shareOut_31 ?_
      refine lv_istore (lv' := [(7, .int (τ (28 + k) q)), (0, .ref (a 0)), (1, .int (nI (5 + q))), (2, .int x), (3, .int y), (4, .int v), (5, .int u), (6, .int (nI k))]) hx hb dX3_shareOut_32 hl (by decide) rfl (fun ls hl => ?_)
      refine lv_iload_n hx hb dX3_shareOut_34 rfl (lv_at hl 3 rfl) ?_
      refine lv_i2l hx hb dX3_shareOut_35 rfl ?_
      refine lv_iload hx hb dX3_shareOut_36 (lv_at hl 0 rfl) ?_
      refine lv_i2l hx hb dX3_shareOut_38 rfl ?_
      refine lv_ldc2 (v := 12) hx hb hown (hts _ mX3_shareOut_5) dX3_shareOut_39 ?_
      refine sc_i (sr_S (As := [.long x.toInt64, .long ((τ (28 + k) q).toInt64), .long 12]) (rest := []) ⟨hx, hb, hml, hown, hts⟩ (zX3_portion l D a cs _ x.toInt64 ((τ (28 + k) q).toInt64) 12 _) (va_cwS 3 hts gX3_shareOut_X3_portion rfl rfl rfl (by decide +kernel) ⟨Nat.le_of_ble_eq_true rfl, Nat.le_of_ble_eq_true rfl⟩) hK hN hw rfl hl.1 (Nat.le_of_ble_eq_true rfl) dX3_shareOut_42 ⟨Nat.le_of_ble_eq_true rfl, Nat.le_of_ble_eq_true rfl⟩) hw hA (fun H locs hw => ?_)
      refine lw_topi (fun x3 ex3 => ?_)
      refine lv_istore (lv' := [(8, .int x3), (7, .int (τ (28 + k) q)), (0, .ref (a 0)), (1, .int (nI (5 + q))), (2, .int x), (3, .int y), (4, .int v), (5, .int u), (6, .int (nI k))]) hx hb dX3_shareOut_45 hl (by decide) rfl (fun ls hl => ?_)
      refine lv_iload_n hx hb dX3_shareOut_47 rfl (lv_at hl 5 rfl) ?_
      refine lv_i2l hx hb dX3_shareOut_48 rfl ?_
      refine lv_iload hx hb dX3_shareOut_49 (lv_at hl 1 rfl) ?_
      refine lv_i2l hx hb dX3_shareOut_51 rfl ?_
      refine lv_ldc2 (v := 12) hx hb hown (hts _ mX3_shareOut_5) dX3_shareOut_52 ?_
      refine sc_i (sr_S (As := [.long y.toInt64, .long ((τ (28 + k) q).toInt64), .long 12]) (rest := []) ⟨hx, hb, hml, hown, hts⟩ (zX3_portion l D a cs _ y.toInt64 ((τ (28 + k) q).toInt64) 12 _) (va_cwS 3 hts gX3_shareOut_X3_portion rfl rfl rfl (by decide +kernel) ⟨Nat.le_of_ble_eq_true rfl, Nat.le_of_ble_eq_true rfl⟩) hK hN hw rfl hl.1 (Nat.le_of_ble_eq_true rfl) dX3_shareOut_55 ⟨Nat.le_of_ble_eq_true rfl, Nat.le_of_ble_eq_true rfl⟩) hw hA (fun H locs hw => ?_)
      refine lw_topi (fun x4 ex4 => ?_)
      refine lv_istore (lv' := [(9, .int x4), (8, .int x3), (7, .int (τ (28 + k) q)), (0, .ref (a 0)), (1, .int (nI (5 + q))), (2, .int x), (3, .int y), (4, .int v), (5, .int u), (6, .int (nI k))]) hx hb dX3_shareOut_58 hl (by decide) rfl (fun ls hl => ?_)
      refine lv_aload_n hx hb dX3_shareOut_60 rfl (lv_at hl 3 rfl) ?_
      refine sg_oq hx hb hts iX3_shareOut_X3 hown hK hw 2 (Or.inr (Or.inr ⟨rfl, rfl⟩)) (hts _ mX3_shareOut_2) dX3_shareOut_61 ?_
      refine lv_iload hx hb dX3_shareOut_64 (lv_at hl 9 rfl) ?_
      refine sg_g (k := k) hx hb hK hw (by omega) rfl dX3_shareOut_66 ?_
      refine lv_iload hx hb dX3_shareOut_67 (lv_at hl 1 rfl) ?_
      refine lv_iload hx hb dX3_shareOut_69 (lv_at hl 0 rfl) ?_
      refine sc_v (sr_V (i := 22 + k) (As := [.int x3, .int x4]) (rest := []) ⟨hx, hb, hml, hown, hts⟩ (zX0_getSalt l D a cs _ k (by omega) x3 x4 _) (cwV 2 hts gX3_shareOut_X0_getSalt rfl rfl rfl (by decide +kernel) ⟨Nat.le_of_ble_eq_true rfl, Nat.le_of_ble_eq_true rfl⟩) hK hN hw (by omega) (sE_f (by omega)) kcX0 rfl hl.1 (Nat.le_of_ble_eq_true rfl) dX3_shareOut_71 ⟨Nat.le_of_ble_eq_true rfl, Nat.le_of_ble_eq_true rfl⟩) hw hA (fun H locs hw => ?_)
      obtain ⟨τ5, eτ5⟩ : ∃ zz : sS, f_X0_getSalt τ k x3 x4 = zz := ⟨_, rfl⟩
      rw [eτ5] at hw
      refine lv_iload hx hb dX3_shareOut_74 (lv_at hl 7 rfl) ?_
      refine lv_iload hx hb dX3_shareOut_76 (lv_at hl 1 rfl) ?_
      refine lv_isub hx hb dX3_shareOut_78 ?_
      refine lv_istore (lv' := [(4, .int (v - x3)), (9, .int x4), (8, .int x3), (7, .int (τ (28 + k) q)), (0, .ref (a 0)), (1, .int (nI (5 + q))), (2, .int x), (3, .int y), (5, .int u), (6, .int (nI k))]) hx hb dX3_shareOut_79 hl (by decide) rfl (fun ls hl => ?_)
      refine lv_iload hx hb dX3_shareOut_81 (lv_at hl 8 rfl) ?_
      refine lv_iload hx hb dX3_shareOut_83 (lv_at hl 1 rfl) ?_
      refine lv_isub hx hb dX3_shareOut_85 ?_
      refine lv_istore (lv' := [(5, .int (u - x4)), (4, .int (v - x3)), (9, .int x4), (8, .int x3), (7, .int (τ (28 + k) q)), (0, .ref (a 0)), (1, .int (nI (5 + q))), (2, .int x), (3, .int y), (6, .int (nI k))]) hx hb dX3_shareOut_86 hl (by decide) rfl (fun ls hl => ?_)
      refine lv_iinc (v := nI (k + 1)) (lv' := [(6, .int (nI (k + 1))), (5, .int (u - x4)), (4, .int (v - x3)), (9, .int x4), (8, .int x3), (7, .int (τ (28 + k) q)), (0, .ref (a 0)), (1, .int (nI (5 + q))), (2, .int x), (3, .int y)]) hx hb dX3_shareOut_88 hl (k := 9) rfl (nI_1 k) (by decide) rfl (fun ls hl => ?_)
      refine lv_goto (tgt := 9) hx hb dX3_shareOut_91 (by decide) ?_
      have hstep : f_X3_so q x y (n + 1) k τ = f_X3_so q x y n (k + 1) τ5 := by
        subst eτ5 ex4 ex3; rfl
      have hval0 : f_X3_soS q x y (n + 1) k τ v = f_X3_soS q x y n (k + 1) τ5 (v - x3) := by
        subst eτ5 ex4 ex3; rfl
      have hval1 : f_X3_soD q x y (n + 1) k τ u = f_X3_soD q x y n (k + 1) τ5 (u - x4) := by
        subst eτ5 ex4 ex3; rfl
      exact ih (k + 1) τ5 (v - x3) (u - x4) H locs ls ⟨by omega, by subst eτ5 ex4 ex3; exact (f_X0_getSalt_at (by omega)).trans hkn.2⟩ hw (lv_sub hl [6, 7, 8, 9, 2, 1, 0] rfl) (fun H locs ls hw hl => kont H locs ls (by rw [hstep]; exact hw) (by rw [hval0, hval1]; exact hl))
  refine loop _ fc 0 σ x y _ _ _ ⟨Nat.zero_add fc, hc⟩ hw (lv_sub hl [3, 4, 5, 6, 2, 1, 0] rfl) (fun H locs ls hw hl => ?_)
  obtain ⟨τ6, eτ6⟩ : ∃ zz : sS, f_X3_so q x y fc 0 σ = zz := ⟨_, rfl⟩
  rw [eτ6] at hw
  refine lv_aload_n hx hb dX3_shareOut_94 rfl (lv_at hl 0 rfl) ?_
  refine lv_dup hx hb dX3_shareOut_95 rfl ?_
  refine sg_o hx hb hts iX3_shareOut_X3 hown hK hw 7 (by decide) (hts _ mX3_shareOut_6) dX3_shareOut_96 ?_
  refine lv_iload hx hb dX3_shareOut_99 (lv_at hl 1 rfl) ?_
  refine lv_iadd hx hb dX3_shareOut_101 ?_
  refine lw_topi (fun x7 ex7 => ?_)
  refine sp_o hx hb hts iX3_shareOut_X3 hown hK hw 7 (by decide) (hts _ mX3_shareOut_6) dX3_shareOut_102 (fun H locs hw => ?_)
  obtain ⟨τ8, eτ8⟩ : ∃ zz : sS, va_up τ6 0 (upd (τ6 0) 7 x7) = zz := ⟨_, rfl⟩
  rw [eτ8] at hw
  refine lv_aload_n hx hb dX3_shareOut_105 rfl (lv_at hl 0 rfl) ?_
  refine lv_dup hx hb dX3_shareOut_106 rfl ?_
  refine sg_o hx hb hts iX3_shareOut_X3 hown hK hw 8 (by decide) (hts _ mX3_shareOut_7) dX3_shareOut_107 ?_
  refine lv_iload hx hb dX3_shareOut_110 (lv_at hl 2 rfl) ?_
  refine lv_iadd hx hb dX3_shareOut_112 ?_
  refine lw_topi (fun x9 ex9 => ?_)
  refine sp_o hx hb hts iX3_shareOut_X3 hown hK hw 8 (by decide) (hts _ mX3_shareOut_7) dX3_shareOut_113 (fun H locs hw => ?_)
  obtain ⟨τ10, eτ10⟩ : ∃ zz : sS, va_up τ8 0 (upd (τ8 0) 8 x9) = zz := ⟨_, rfl⟩
  rw [eτ10] at hw
  exact se_v hx hb hr hlocks hw (by subst eτ10 ex9 eτ8 ex7 eτ6; exact rfl) dX3_shareOut_116
theorem mX3_harvest_0 : (Cond.fieldLink RX3 10 "SaltRow" "row" "LSaltRow$Row;") ∈ wsX3_harvest := by decide +kernel
theorem iX3_harvest_X3 : ∀ w ∈ wsX30, w ∈ wsX3_harvest := by decide +kernel
theorem mX3_harvest_2 : (Cond.fieldLink RX3 46 "SaltRow$Row" "ponds" "[LSaltRow$Pond;") ∈ wsX3_harvest := by decide +kernel
theorem iX3_harvest_X2 : ∀ w ∈ wsX20, w ∈ wsX3_harvest := by decide +kernel
theorem mX3_harvest_4 : (Cond.fieldLink RX3 164 "SaltRow$Pond" "crustSalt" "I") ∈ wsX3_harvest := by decide +kernel
theorem iX3_harvest_X1 : ∀ w ∈ wsX10, w ∈ wsX3_harvest := by decide +kernel
theorem mX3_harvest_6 : (Cond.fieldLink RX3 167 "SaltRow$Pond" "crustDirt" "I") ∈ wsX3_harvest := by decide +kernel
theorem mX3_harvest_7 : (Cond.fieldLink RX3 170 "SaltRow$Pond" "wasHarvested" "Z") ∈ wsX3_harvest := by decide +kernel
theorem mX3_harvest_8 : (Cond.fieldLink RX3 173 "SaltRow" "crownSalt" "I") ∈ wsX3_harvest := by decide +kernel
set_option maxHeartbeats 4000000 in
set_option maxRecDepth 100000 in
theorem zX3_harvest (l : Launch) (D : va_G) (a : Nat → Nat) (cs : Nat → ClassId) (σ : sS) (fc : Nat) (hfc : fc ≤ 6) (hc : σ 0 3 = nI fc) (q : Nat) (hq : q < 3) (x : Int32) (hh : ¬ f_X1_canBeHarvested (σ (5 + 8 * 0 + (5 + q))) = 0) : sMi l yX3_harvest wsX3_harvest ({ frames := 2, cells := 0, slots := 0, locals := 54 }) D a cs [.ref (a 0), .int (nI (5 + q)), .int x] σ (f_X1_saltOfHarvest (σ (5 + 8 * 0 + (5 + q))) x) (f_X3_harvest σ q fc x) := by
  intro sz
  refine Met.ofW (cc := cX3_harvest) (maxL := 7) (ret := (some .int)) (by decide) rfl ?_
  intro p e s m args below meth c s₁ B hml hv
  obtain ⟨rfl, hsz, hv2⟩ := hv
  have hv3 : sB D a cs σ sz s := ⟨hsz, hv2⟩
  subst hsz
  have hw := sH_start hv3
  obtain ⟨-, -, hK, -, hN⟩ := hv3
  have hx := B.exec
  have hb := B.bytes
  have hr := B.returns
  have hts := atoms_spec (ws := wsX3_harvest) B.pre
  have hown : s.vm.findClass RX3 = some m.cls := findClass_of_methodNamed B.named
  have hlocks := B.notSynchronized
  have hA : ∀ q : Nat, s.heap.size ≤ q → sA a s.heap.size q := sA_new
  have hl := lv_entry ([.ref (a 0), .int (nI (5 + q)), .int x]) (n := 7) (Nat.le_of_ble_eq_true rfl)
  rw [lg_entry_eq]
  generalize (lg_sl ([.ref (a 0), .int (nI (5 + q)), .int x]) ++ List.replicate (7 - (lg_sl ([.ref (a 0), .int (nI (5 + q)), .int x])).length) Slot.unset).toArray = ls at hl ⊢
  have hl : lv_has ls 7 [(0, .ref (a 0)), (1, .int (nI (5 + q))), (2, .int x)] := hl
  refine lv_aload_n hx hb dX3_harvest_0 rfl (lv_at hl 0 rfl) ?_
  refine lv_iload_n hx hb dX3_harvest_1 rfl (lv_at hl 1 rfl) ?_
  refine sc_v (sr_V (i := 0) (As := [.int (nI (5 + q))]) (rest := []) ⟨hx, hb, hml, hown, hts⟩ (zX3_needPan l D a cs _ q (by omega) _) (cwV 1 hts gX3_harvest_X3_needPan rfl rfl rfl (by decide +kernel) ⟨Nat.le_of_ble_eq_true rfl, Nat.le_of_ble_eq_true rfl⟩) hK hN hw (by omega) sE_o kcX3 rfl hl.1 (Nat.le_of_ble_eq_true rfl) dX3_harvest_2 ⟨Nat.le_of_ble_eq_true rfl, Nat.le_of_ble_eq_true rfl⟩) hw hA (fun H locs hw => ?_)
  refine lv_aload_n hx hb dX3_harvest_5 rfl (lv_at hl 0 rfl) ?_
  refine sg_oq hx hb hts iX3_harvest_X3 hown hK hw 0 (Or.inl ⟨rfl, rfl⟩) (hts _ mX3_harvest_0) dX3_harvest_6 ?_
  refine sg_rq (r := 0) hx hb hts iX3_harvest_X2 hown hK hw (by omega) (hts _ mX3_harvest_2) dX3_harvest_9 ?_
  refine lv_iload_n hx hb dX3_harvest_12 rfl (lv_at hl 1 rfl) ?_
  refine sg_q (r := 0) (k := (5 + q)) hx hb hK hw (by omega) (by omega) rfl dX3_harvest_13 ?_
  refine lv_astore_n (lv' := [(3, .ref (a (5 + 8 * 0 + (5 + q)))), (0, .ref (a 0)), (1, .int (nI (5 + q))), (2, .int x)]) hx hb dX3_harvest_14 rfl hl (by decide) rfl (fun ls hl => ?_)
  refine lv_aload_n hx hb dX3_harvest_15 rfl (lv_at hl 0 rfl) ?_
  have hw := sH_foc (i := 5 + 8 * 0 + (5 + q)) hw
  refine sc_i (sr_V (i := 5 + 8 * 0 + (5 + q)) (As := []) (rest := []) ⟨hx, hb, hml, hown, hts⟩ (zX1_canBeHarvested l D a cs _ (5 + 8 * 0 + (5 + q)) (by omega) _ _) (cwV 0 hts gX3_harvest_X1_canBeHarvested rfl rfl rfl (by decide +kernel) ⟨Nat.le_of_ble_eq_true rfl, Nat.le_of_ble_eq_true rfl⟩) hK hN hw (by omega) (sE_p (by omega)) kcX1 rfl hl.1 (Nat.le_of_ble_eq_true rfl) dX3_harvest_16 ⟨Nat.le_of_ble_eq_true rfl, Nat.le_of_ble_eq_true rfl⟩) hw hA (fun H locs hw => ?_)
  have hw := sH_unf hw
  refine lv_if_ne (tgt := 32) hx hb dX3_harvest_19 (by decide) (fun c1 => ?_) (fun c1 => absurd c1 hh)
  refine lv_aload_n hx hb dX3_harvest_32 rfl (lv_at hl 0 rfl) ?_
  refine lv_iload_n hx hb dX3_harvest_33 rfl (lv_at hl 3 rfl) ?_
  have hw := sH_foc (i := 5 + 8 * 0 + (5 + q)) hw
  refine sc_i (sr_V (i := 5 + 8 * 0 + (5 + q)) (As := [.int x]) (rest := []) ⟨hx, hb, hml, hown, hts⟩ (zX1_saltOfHarvest l D a cs _ (5 + 8 * 0 + (5 + q)) (by omega) _ x _) (cwV 1 hts gX3_harvest_X1_saltOfHarvest rfl rfl rfl (by decide +kernel) ⟨Nat.le_of_ble_eq_true rfl, Nat.le_of_ble_eq_true rfl⟩) hK hN hw (by omega) (sE_p (by omega)) kcX1 rfl hl.1 (Nat.le_of_ble_eq_true rfl) dX3_harvest_34 ⟨Nat.le_of_ble_eq_true rfl, Nat.le_of_ble_eq_true rfl⟩) hw hA (fun H locs hw => ?_)
  have hw := sH_unf hw
  refine lw_topi (fun x2 ex2 => ?_)
  refine lv_istore (lv' := [(4, .int x2), (3, .ref (a (5 + 8 * 0 + (5 + q)))), (0, .ref (a 0)), (1, .int (nI (5 + q))), (2, .int x)]) hx hb dX3_harvest_37 hl (by decide) rfl (fun ls hl => ?_)
  refine lv_aload_n hx hb dX3_harvest_39 rfl (lv_at hl 1 rfl) ?_
  refine lv_iload hx hb dX3_harvest_40 (lv_at hl 0 rfl) ?_
  have hw := sH_foc (i := 5 + 8 * 0 + (5 + q)) hw
  refine sc_i (sr_V (i := 5 + 8 * 0 + (5 + q)) (As := [.int x2]) (rest := []) ⟨hx, hb, hml, hown, hts⟩ (zX1_dirtOfCrustWith l D a cs _ (5 + 8 * 0 + (5 + q)) (by omega) _ x2 _) (cwV 1 hts gX3_harvest_X1_dirtOfCrustWith rfl rfl rfl (by decide +kernel) ⟨Nat.le_of_ble_eq_true rfl, Nat.le_of_ble_eq_true rfl⟩) hK hN hw (by omega) (sE_p (by omega)) kcX1 rfl hl.1 (Nat.le_of_ble_eq_true rfl) dX3_harvest_42 ⟨Nat.le_of_ble_eq_true rfl, Nat.le_of_ble_eq_true rfl⟩) hw hA (fun H locs hw => ?_)
  have hw := sH_unf hw
  refine lw_topi (fun x3 ex3 => ?_)
  refine lv_istore (lv' := [(5, .int x3), (4, .int x2), (3, .ref (a (5 + 8 * 0 + (5 + q)))), (0, .ref (a 0)), (1, .int (nI (5 + q))), (2, .int x)]) hx hb dX3_harvest_45 hl (by decide) rfl (fun ls hl => ?_)
  refine lv_iload hx hb dX3_harvest_47 (lv_at hl 0 rfl) ?_
  refine lv_aload_n hx hb dX3_harvest_49 rfl (lv_at hl 2 rfl) ?_
  refine lv_iload_n hx hb dX3_harvest_50 rfl (lv_at hl 5 rfl) ?_
  have hw := sH_foc (i := 5 + 8 * 0 + (5 + q)) hw
  refine sc_i (sr_V (i := 5 + 8 * 0 + (5 + q)) (As := [.int x]) (rest := [.int x3]) ⟨hx, hb, hml, hown, hts⟩ (zX1_dirtOfFloor l D a cs _ (5 + 8 * 0 + (5 + q)) (by omega) _ x _) (cwV 1 hts gX3_harvest_X1_dirtOfFloor rfl rfl rfl (by decide +kernel) ⟨Nat.le_of_ble_eq_true rfl, Nat.le_of_ble_eq_true rfl⟩) hK hN hw (by omega) (sE_p (by omega)) kcX1 rfl hl.1 (Nat.le_of_ble_eq_true rfl) dX3_harvest_51 ⟨Nat.le_of_ble_eq_true rfl, Nat.le_of_ble_eq_true rfl⟩) hw hA (fun H locs hw => ?_)
  have hw := sH_unf hw
  refine lv_iadd hx hb dX3_harvest_54 ?_
  refine lw_topi (fun x4 ex4 => ?_)
  refine lv_istore (lv' := [(6, .int x4), (5, .int x3), (4, .int x2), (3, .ref (a (5 + 8 * 0 + (5 + q)))), (0, .ref (a 0)), (1, .int (nI (5 + q))), (2, .int x)]) hx hb dX3_harvest_55 hl (by decide) rfl (fun ls hl => ?_)
  refine lv_aload_n hx hb dX3_harvest_57 rfl (lv_at hl 3 rfl) ?_
  refine lv_dup hx hb dX3_harvest_58 rfl ?_
  refine sg_p hx hb hts iX3_harvest_X1 hown hK hw (by omega) 6 (by decide) (hts _ mX3_harvest_4) dX3_harvest_59 ?_
  refine lv_iload hx hb dX3_harvest_62 (lv_at hl 2 rfl) ?_
  refine lv_isub hx hb dX3_harvest_64 ?_
  refine lw_topi (fun x5 ex5 => ?_)
  refine sp_p hx hb hts iX3_harvest_X1 hown hK hw (by omega) 6 (by decide) (hts _ mX3_harvest_4) dX3_harvest_65 (fun H locs hw => ?_)
  obtain ⟨τ6, eτ6⟩ : ∃ zz : sS, va_up σ (5 + 8 * 0 + (5 + q)) (upd (σ (5 + 8 * 0 + (5 + q))) 6 x5) = zz := ⟨_, rfl⟩
  rw [eτ6] at hw
  refine lv_aload_n hx hb dX3_harvest_68 rfl (lv_at hl 3 rfl) ?_
  refine lv_dup hx hb dX3_harvest_69 rfl ?_
  refine sg_p hx hb hts iX3_harvest_X1 hown hK hw (by omega) 7 (by decide) (hts _ mX3_harvest_6) dX3_harvest_70 ?_
  refine lv_iload hx hb dX3_harvest_73 (lv_at hl 1 rfl) ?_
  refine lv_isub hx hb dX3_harvest_75 ?_
  refine lw_topi (fun x7 ex7 => ?_)
  refine sp_p hx hb hts iX3_harvest_X1 hown hK hw (by omega) 7 (by decide) (hts _ mX3_harvest_6) dX3_harvest_76 (fun H locs hw => ?_)
  obtain ⟨τ8, eτ8⟩ : ∃ zz : sS, va_up τ6 (5 + 8 * 0 + (5 + q)) (upd (τ6 (5 + 8 * 0 + (5 + q))) 7 x7) = zz := ⟨_, rfl⟩
  rw [eτ8] at hw
  refine lv_aload_n hx hb dX3_harvest_79 rfl (lv_at hl 3 rfl) ?_
  refine lv_iconst (v := 1) hx hb dX3_harvest_80 (by decide) ?_
  refine sp_z hx hb hts iX3_harvest_X1 hown hK hw (by omega) 11 (Or.inr rfl) (by decide) (hts _ mX3_harvest_7) dX3_harvest_81 (fun H locs hw => ?_)
  obtain ⟨τ9, eτ9⟩ : ∃ zz : sS, va_up τ8 (5 + 8 * 0 + (5 + q)) (upd (τ8 (5 + 8 * 0 + (5 + q))) 11 1) = zz := ⟨_, rfl⟩
  rw [eτ9] at hw
  refine lv_aload_n hx hb dX3_harvest_84 rfl (lv_at hl 4 rfl) ?_
  refine lv_dup hx hb dX3_harvest_85 rfl ?_
  refine sg_o hx hb hts iX3_harvest_X3 hown hK hw 6 (by decide) (hts _ mX3_harvest_8) dX3_harvest_86 ?_
  refine lv_iload hx hb dX3_harvest_89 (lv_at hl 2 rfl) ?_
  refine sc_i (sr_S (As := [.int x2]) (rest := [.int (τ9 0 6), .ref (a 0)]) ⟨hx, hb, hml, hown, hts⟩ (zX3_crownsPart l D a cs _ x2 _) (va_cwS 1 hts gX3_harvest_X3_crownsPart rfl rfl rfl (by decide +kernel) ⟨Nat.le_of_ble_eq_true rfl, Nat.le_of_ble_eq_true rfl⟩) hK hN hw rfl hl.1 (Nat.le_of_ble_eq_true rfl) dX3_harvest_91 ⟨Nat.le_of_ble_eq_true rfl, Nat.le_of_ble_eq_true rfl⟩) hw hA (fun H locs hw => ?_)
  refine lv_iadd hx hb dX3_harvest_94 ?_
  refine lw_topi (fun x10 ex10 => ?_)
  refine sp_o hx hb hts iX3_harvest_X3 hown hK hw 6 (by decide) (hts _ mX3_harvest_8) dX3_harvest_95 (fun H locs hw => ?_)
  obtain ⟨τ11, eτ11⟩ : ∃ zz : sS, va_up τ9 0 (upd (τ9 0) 6 x10) = zz := ⟨_, rfl⟩
  rw [eτ11] at hw
  refine lv_aload_n hx hb dX3_harvest_98 rfl (lv_at hl 4 rfl) ?_
  refine lv_iload_n hx hb dX3_harvest_99 rfl (lv_at hl 5 rfl) ?_
  refine lv_iload hx hb dX3_harvest_100 (lv_at hl 2 rfl) ?_
  refine lv_iload hx hb dX3_harvest_102 (lv_at hl 2 rfl) ?_
  refine sc_i (sr_S (As := [.int x2]) (rest := [.int x2, .int (nI (5 + q)), .ref (a 0)]) ⟨hx, hb, hml, hown, hts⟩ (zX3_crownsPart l D a cs _ x2 _) (va_cwS 1 hts gX3_harvest_X3_crownsPart rfl rfl rfl (by decide +kernel) ⟨Nat.le_of_ble_eq_true rfl, Nat.le_of_ble_eq_true rfl⟩) hK hN hw rfl hl.1 (Nat.le_of_ble_eq_true rfl) dX3_harvest_104 ⟨Nat.le_of_ble_eq_true rfl, Nat.le_of_ble_eq_true rfl⟩) hw hA (fun H locs hw => ?_)
  refine lv_isub hx hb dX3_harvest_107 ?_
  refine lv_iload hx hb dX3_harvest_108 (lv_at hl 0 rfl) ?_
  refine sc_v (sr_V (i := 0) (As := [.int (nI (5 + q)), .int (x2 - (f_X3_crownsPart x2)), .int x4]) (rest := []) ⟨hx, hb, hml, hown, hts⟩ (zX3_shareOut l D a cs _ fc hfc (by subst eτ11 ex10 eτ9 eτ8 ex7 eτ6 ex5 ex4 ex3 ex2; simp [va_up, upd, hc, show ¬ (0 = 5 + (5 + q)) by omega]) q hq (x2 - (f_X3_crownsPart x2)) x4 _) (cwV 3 hts gX3_harvest_X3_shareOut rfl rfl rfl (by decide +kernel) ⟨Nat.le_of_ble_eq_true rfl, Nat.le_of_ble_eq_true rfl⟩) hK hN hw (by omega) sE_o kcX3 rfl hl.1 (Nat.le_of_ble_eq_true rfl) dX3_harvest_110 ⟨Nat.le_of_ble_eq_true rfl, Nat.le_of_ble_eq_true rfl⟩) hw hA (fun H locs hw => ?_)
  obtain ⟨τ12, eτ12⟩ : ∃ zz : sS, f_X3_shareOut τ11 q fc (x2 - (f_X3_crownsPart x2)) x4 = zz := ⟨_, rfl⟩
  rw [eτ12] at hw
  refine lv_iload hx hb dX3_harvest_113 (lv_at hl 2 rfl) ?_
  exact se_i hx hb hr hlocks hw (by subst eτ12 eτ11 ex10 eτ9 eτ8 ex7 eτ6 ex5 ex4 ex3 ex2; exact rfl) (by subst eτ12 eτ11 ex10 eτ9 eτ8 ex7 eτ6 ex5 ex4 ex3 ex2; exact rfl) dX3_harvest_115
theorem mX3_wash_0 : (Cond.fieldLink RX3 21 "SaltRow" "families" "[LSaltRow$Family;") ∈ wsX3_wash := by decide +kernel
theorem iX3_wash_X3 : ∀ w ∈ wsX30, w ∈ wsX3_wash := by decide +kernel
theorem mX3_wash_2 : (Cond.fieldLink RX3 197 "SaltRow$Family" "salt" "I") ∈ wsX3_wash := by decide +kernel
theorem iX3_wash_X0 : ∀ w ∈ wsX00, w ∈ wsX3_wash := by decide +kernel
theorem mX3_wash_4 : (Cond.fieldLink RX3 200 "SaltRow$Family" "dirt" "I") ∈ wsX3_wash := by decide +kernel
theorem mX3_wash_5 : (Cond.fieldLink RX3 100 "SaltRow" "lostSalt" "I") ∈ wsX3_wash := by decide +kernel
set_option maxHeartbeats 4000000 in
set_option maxRecDepth 100000 in
theorem zX3_wash (l : Launch) (D : va_G) (a : Nat → Nat) (cs : Nat → ClassId) (σ : sS) (fc : Nat) (hfc : fc ≤ 6) (hc : σ 0 3 = nI fc) (j : Nat) (hj : j < fc) (hs : 1 ≤ σ (22 + j) 1) : sMi l yX3_wash wsX3_wash ({ frames := 2, cells := 0, slots := 0, locals := 46 }) D a cs [.ref (a 0), .int (nI j)] σ (f_X3_washV σ j) (f_X3_wash σ j) := by
  intro sz
  refine Met.ofW (cc := cX3_wash) (maxL := 4) (ret := (some .int)) (by decide) rfl ?_
  intro p e s m args below meth c s₁ B hml hv
  obtain ⟨rfl, hsz, hv2⟩ := hv
  have hv3 : sB D a cs σ sz s := ⟨hsz, hv2⟩
  subst hsz
  have hw := sH_start hv3
  obtain ⟨-, -, hK, -, hN⟩ := hv3
  have hx := B.exec
  have hb := B.bytes
  have hr := B.returns
  have hts := atoms_spec (ws := wsX3_wash) B.pre
  have hown : s.vm.findClass RX3 = some m.cls := findClass_of_methodNamed B.named
  have hlocks := B.notSynchronized
  have hA : ∀ q : Nat, s.heap.size ≤ q → sA a s.heap.size q := sA_new
  have hl := lv_entry ([.ref (a 0), .int (nI j)]) (n := 4) (Nat.le_of_ble_eq_true rfl)
  rw [lg_entry_eq]
  generalize (lg_sl ([.ref (a 0), .int (nI j)]) ++ List.replicate (4 - (lg_sl ([.ref (a 0), .int (nI j)])).length) Slot.unset).toArray = ls at hl ⊢
  have hl : lv_has ls 4 [(0, .ref (a 0)), (1, .int (nI j))] := hl
  refine lv_aload_n hx hb dX3_wash_0 rfl (lv_at hl 0 rfl) ?_
  refine lv_iload_n hx hb dX3_wash_1 rfl (lv_at hl 1 rfl) ?_
  refine sc_v (sr_V (i := 0) (As := [.int (nI j)]) (rest := []) ⟨hx, hb, hml, hown, hts⟩ (zX3_needFamily l D a cs _ j (by omega) (by rw [hc]; exact nI_lt (by omega) (by omega)) _) (cwV 1 hts gX3_wash_X3_needFamily rfl rfl rfl (by decide +kernel) ⟨Nat.le_of_ble_eq_true rfl, Nat.le_of_ble_eq_true rfl⟩) hK hN hw (by omega) sE_o kcX3 rfl hl.1 (Nat.le_of_ble_eq_true rfl) dX3_wash_2 ⟨Nat.le_of_ble_eq_true rfl, Nat.le_of_ble_eq_true rfl⟩) hw hA (fun H locs hw => ?_)
  refine lv_aload_n hx hb dX3_wash_5 rfl (lv_at hl 0 rfl) ?_
  refine sg_oq hx hb hts iX3_wash_X3 hown hK hw 2 (Or.inr (Or.inr ⟨rfl, rfl⟩)) (hts _ mX3_wash_0) dX3_wash_6 ?_
  refine lv_iload_n hx hb dX3_wash_9 rfl (lv_at hl 1 rfl) ?_
  refine sg_g (k := j) hx hb hK hw (by omega) rfl dX3_wash_10 ?_
  refine lv_astore_n (lv' := [(2, .ref (a (22 + j))), (0, .ref (a 0)), (1, .int (nI j))]) hx hb dX3_wash_11 rfl hl (by decide) rfl (fun ls hl => ?_)
  refine lv_aload_n hx hb dX3_wash_12 rfl (lv_at hl 0 rfl) ?_
  refine sg_f (j := j) hx hb hts iX3_wash_X0 hown hK hw (by omega) 1 (by decide) (hts _ mX3_wash_2) dX3_wash_13 ?_
  refine lv_iconst (v := 1) hx hb dX3_wash_16 (by decide) ?_
  refine lv_icmp_ge (tgt := 30) hx hb dX3_wash_17 (by decide) (fun c1 => ?_) (fun c1 => absurd hs c1)
  refine lv_aload_n hx hb dX3_wash_30 rfl (lv_at hl 0 rfl) ?_
  refine sg_f (j := j) hx hb hts iX3_wash_X0 hown hK hw (by omega) 1 (by decide) (hts _ mX3_wash_2) dX3_wash_31 ?_
  refine lv_bipush (v := 20) hx hb dX3_wash_34 (by decide) ?_
  refine sc_i (sr_S (As := [.int (σ (22 + j) 1), .int 20]) (rest := []) ⟨hx, hb, hml, hown, hts⟩ (zX3_roundedUp l D a cs _ (σ (22 + j) 1) 20 _) (va_cwS 2 hts gX3_wash_X3_roundedUp rfl rfl rfl (by decide +kernel) ⟨Nat.le_of_ble_eq_true rfl, Nat.le_of_ble_eq_true rfl⟩) hK hN hw rfl hl.1 (Nat.le_of_ble_eq_true rfl) dX3_wash_36 ⟨Nat.le_of_ble_eq_true rfl, Nat.le_of_ble_eq_true rfl⟩) hw hA (fun H locs hw => ?_)
  refine lw_topi (fun x2 ex2 => ?_)
  refine lv_istore_n (lv' := [(3, .int x2), (2, .ref (a (22 + j))), (0, .ref (a 0)), (1, .int (nI j))]) hx hb dX3_wash_39 rfl hl (by decide) rfl (fun ls hl => ?_)
  refine lv_aload_n hx hb dX3_wash_40 rfl (lv_at hl 1 rfl) ?_
  refine lv_dup hx hb dX3_wash_41 rfl ?_
  refine sg_f (j := j) hx hb hts iX3_wash_X0 hown hK hw (by omega) 2 (by decide) (hts _ mX3_wash_4) dX3_wash_42 ?_
  refine lv_aload_n hx hb dX3_wash_45 rfl (lv_at hl 1 rfl) ?_
  refine sg_f (j := j) hx hb hts iX3_wash_X0 hown hK hw (by omega) 2 (by decide) (hts _ mX3_wash_4) dX3_wash_46 ?_
  refine lv_iconst (v := 2) hx hb dX3_wash_49 (by decide) ?_
  refine sc_i (sr_S (As := [.int (σ (22 + j) 2), .int 2]) (rest := [.int (σ (22 + j) 2), .ref (a (22 + j))]) ⟨hx, hb, hml, hown, hts⟩ (zX3_roundedUp l D a cs _ (σ (22 + j) 2) 2 _) (va_cwS 2 hts gX3_wash_X3_roundedUp rfl rfl rfl (by decide +kernel) ⟨Nat.le_of_ble_eq_true rfl, Nat.le_of_ble_eq_true rfl⟩) hK hN hw rfl hl.1 (Nat.le_of_ble_eq_true rfl) dX3_wash_50 ⟨Nat.le_of_ble_eq_true rfl, Nat.le_of_ble_eq_true rfl⟩) hw hA (fun H locs hw => ?_)
  refine lv_isub hx hb dX3_wash_53 ?_
  refine lw_topi (fun x3 ex3 => ?_)
  refine sp_f (j := j) hx hb hts iX3_wash_X0 hown hK hw (by omega) 2 (by decide) (hts _ mX3_wash_4) dX3_wash_54 (fun H locs hw => ?_)
  obtain ⟨τ4, eτ4⟩ : ∃ zz : sS, va_up σ (22 + j) (upd (σ (22 + j)) 2 x3) = zz := ⟨_, rfl⟩
  rw [eτ4] at hw
  refine lv_aload_n hx hb dX3_wash_57 rfl (lv_at hl 1 rfl) ?_
  refine lv_dup hx hb dX3_wash_58 rfl ?_
  refine sg_f (j := j) hx hb hts iX3_wash_X0 hown hK hw (by omega) 1 (by decide) (hts _ mX3_wash_2) dX3_wash_59 ?_
  refine lv_iload_n hx hb dX3_wash_62 rfl (lv_at hl 0 rfl) ?_
  refine lv_isub hx hb dX3_wash_63 ?_
  refine sp_f (j := j) hx hb hts iX3_wash_X0 hown hK hw (by omega) 1 (by decide) (hts _ mX3_wash_2) dX3_wash_64 (fun H locs hw => ?_)
  obtain ⟨τ5, eτ5⟩ : ∃ zz : sS, va_up τ4 (22 + j) (upd (τ4 (22 + j)) 1 ((τ4 (22 + j) 1) - x2)) = zz := ⟨_, rfl⟩
  rw [eτ5] at hw
  refine lv_aload_n hx hb dX3_wash_67 rfl (lv_at hl 2 rfl) ?_
  refine lv_dup hx hb dX3_wash_68 rfl ?_
  refine sg_o hx hb hts iX3_wash_X3 hown hK hw 5 (by decide) (hts _ mX3_wash_5) dX3_wash_69 ?_
  refine lv_iload_n hx hb dX3_wash_72 rfl (lv_at hl 0 rfl) ?_
  refine lv_iadd hx hb dX3_wash_73 ?_
  refine sp_o hx hb hts iX3_wash_X3 hown hK hw 5 (by decide) (hts _ mX3_wash_5) dX3_wash_74 (fun H locs hw => ?_)
  obtain ⟨τ6, eτ6⟩ : ∃ zz : sS, va_up τ5 0 (upd (τ5 0) 5 ((τ5 0 5) + x2)) = zz := ⟨_, rfl⟩
  rw [eτ6] at hw
  refine lv_aload_n hx hb dX3_wash_77 rfl (lv_at hl 1 rfl) ?_
  refine sg_f (j := j) hx hb hts iX3_wash_X0 hown hK hw (by omega) 1 (by decide) (hts _ mX3_wash_2) dX3_wash_78 ?_
  refine lv_aload_n hx hb dX3_wash_81 rfl (lv_at hl 1 rfl) ?_
  refine sg_f (j := j) hx hb hts iX3_wash_X0 hown hK hw (by omega) 2 (by decide) (hts _ mX3_wash_4) dX3_wash_82 ?_
  refine sc_i (sr_S (As := [.int (τ6 (22 + j) 1), .int (τ6 (22 + j) 2)]) (rest := []) ⟨hx, hb, hml, hown, hts⟩ (zX3_purity l D a cs _ (τ6 (22 + j) 1) (τ6 (22 + j) 2) _) (va_cwS 2 hts gX3_wash_X3_purity rfl rfl rfl (by decide +kernel) ⟨Nat.le_of_ble_eq_true rfl, Nat.le_of_ble_eq_true rfl⟩) hK hN hw rfl hl.1 (Nat.le_of_ble_eq_true rfl) dX3_wash_85 ⟨Nat.le_of_ble_eq_true rfl, Nat.le_of_ble_eq_true rfl⟩) hw hA (fun H locs hw => ?_)
  exact se_i hx hb hr hlocks hw (by subst eτ6 eτ5 eτ4 ex3 ex2; exact rfl) (by subst eτ6 eτ5 eτ4 ex3 ex2; exact rfl) dX3_wash_88
theorem mX3_ofPond_0 : (Cond.fieldLink RX3 10 "SaltRow" "row" "LSaltRow$Row;") ∈ wsX3_ofPond := by decide +kernel
theorem iX3_ofPond_X3 : ∀ w ∈ wsX30, w ∈ wsX3_ofPond := by decide +kernel
theorem mX3_ofPond_2 : (Cond.fieldLink RX3 46 "SaltRow$Row" "ponds" "[LSaltRow$Pond;") ∈ wsX3_ofPond := by decide +kernel
theorem iX3_ofPond_X2 : ∀ w ∈ wsX20, w ∈ wsX3_ofPond := by decide +kernel
set_option maxHeartbeats 4000000 in
set_option maxRecDepth 100000 in
theorem zX3_ofPond (l : Launch) (D : va_G) (a : Nat → Nat) (cs : Nat → ClassId) (σ : sS) (k : Nat) (hk : k < 8) (w : Nat) (hw11 : w < 11) : sMi l yX3_ofPond wsX3_ofPond ({ frames := 3, cells := 0, slots := 0, locals := 66 }) D a cs [.ref (a 0), .int (nI k), .int (nI w)] σ (f_X1_read (σ (5 + 8 * 0 + k)) w) σ := by
  intro sz
  refine Met.ofW (cc := cX3_ofPond) (maxL := 3) (ret := (some .int)) (by decide) rfl ?_
  intro p e s m args below meth c s₁ B hml hv
  obtain ⟨rfl, hsz, hv2⟩ := hv
  have hv3 : sB D a cs σ sz s := ⟨hsz, hv2⟩
  subst hsz
  have hw := sH_start hv3
  obtain ⟨-, -, hK, -, hN⟩ := hv3
  have hx := B.exec
  have hb := B.bytes
  have hr := B.returns
  have hts := atoms_spec (ws := wsX3_ofPond) B.pre
  have hown : s.vm.findClass RX3 = some m.cls := findClass_of_methodNamed B.named
  have hlocks := B.notSynchronized
  have hA : ∀ q : Nat, s.heap.size ≤ q → sA a s.heap.size q := sA_new
  have hl := lv_entry ([.ref (a 0), .int (nI k), .int (nI w)]) (n := 3) (Nat.le_of_ble_eq_true rfl)
  rw [lg_entry_eq]
  generalize (lg_sl ([.ref (a 0), .int (nI k), .int (nI w)]) ++ List.replicate (3 - (lg_sl ([.ref (a 0), .int (nI k), .int (nI w)])).length) Slot.unset).toArray = ls at hl ⊢
  have hl : lv_has ls 3 [(0, .ref (a 0)), (1, .int (nI k)), (2, .int (nI w))] := hl
  refine lv_aload_n hx hb dX3_ofPond_0 rfl (lv_at hl 0 rfl) ?_
  refine lv_iload_n hx hb dX3_ofPond_1 rfl (lv_at hl 1 rfl) ?_
  refine sc_v (sr_V (i := 0) (As := [.int (nI k)]) (rest := []) ⟨hx, hb, hml, hown, hts⟩ (zX3_needPond l D a cs _ k (by omega) _) (cwV 1 hts gX3_ofPond_X3_needPond rfl rfl rfl (by decide +kernel) ⟨Nat.le_of_ble_eq_true rfl, Nat.le_of_ble_eq_true rfl⟩) hK hN hw (by omega) sE_o kcX3 rfl hl.1 (Nat.le_of_ble_eq_true rfl) dX3_ofPond_2 ⟨Nat.le_of_ble_eq_true rfl, Nat.le_of_ble_eq_true rfl⟩) hw hA (fun H locs hw => ?_)
  refine lv_iload_n hx hb dX3_ofPond_5 rfl (lv_at hl 2 rfl) ?_
  refine lv_if_lt (tgt := 15) hx hb dX3_ofPond_6 (by decide) (fun c1 => absurd c1 (nI_pos (n := w) (by omega))) (fun c1 => ?_)
  refine lv_iload_n hx hb dX3_ofPond_9 rfl (lv_at hl 2 rfl) ?_
  refine lv_bipush (v := 10) hx hb dX3_ofPond_10 (by decide) ?_
  refine lv_icmp_le (tgt := 25) hx hb dX3_ofPond_12 (by decide) (fun c2 => ?_) (fun c2 => absurd (nI_le (a := w) (b := 10) (by omega) (by decide)) c2)
  refine lv_aload_n hx hb dX3_ofPond_25 rfl (lv_at hl 0 rfl) ?_
  refine sg_oq hx hb hts iX3_ofPond_X3 hown hK hw 0 (Or.inl ⟨rfl, rfl⟩) (hts _ mX3_ofPond_0) dX3_ofPond_26 ?_
  refine sg_rq (r := 0) hx hb hts iX3_ofPond_X2 hown hK hw (by omega) (hts _ mX3_ofPond_2) dX3_ofPond_29 ?_
  refine lv_iload_n hx hb dX3_ofPond_32 rfl (lv_at hl 1 rfl) ?_
  refine sg_q (r := 0) (k := k) hx hb hK hw (by omega) (by omega) rfl dX3_ofPond_33 ?_
  refine lv_iload_n hx hb dX3_ofPond_34 rfl (lv_at hl 2 rfl) ?_
  have hw := sH_foc (i := 5 + 8 * 0 + k) hw
  refine sc_i (sr_V (i := 5 + 8 * 0 + k) (As := [.int (nI w)]) (rest := []) ⟨hx, hb, hml, hown, hts⟩ (zX1_read l D a cs _ (5 + 8 * 0 + k) (by omega) _ w (by omega) _) (cwV 1 hts gX3_ofPond_X1_read rfl rfl rfl (by decide +kernel) ⟨Nat.le_of_ble_eq_true rfl, Nat.le_of_ble_eq_true rfl⟩) hK hN hw (by omega) (sE_p (by omega)) kcX1 rfl hl.1 (Nat.le_of_ble_eq_true rfl) dX3_ofPond_35 ⟨Nat.le_of_ble_eq_true rfl, Nat.le_of_ble_eq_true rfl⟩) hw hA (fun H locs hw => ?_)
  have hw := sH_unf hw
  exact se_i hx hb hr hlocks hw (by exact rfl) (by rfl) dX3_ofPond_38
theorem mX3_ofFamily_0 : (Cond.fieldLink RX3 21 "SaltRow" "families" "[LSaltRow$Family;") ∈ wsX3_ofFamily := by decide +kernel
theorem iX3_ofFamily_X3 : ∀ w ∈ wsX30, w ∈ wsX3_ofFamily := by decide +kernel
set_option maxHeartbeats 4000000 in
set_option maxRecDepth 100000 in
theorem zX3_ofFamily (l : Launch) (D : va_G) (a : Nat → Nat) (cs : Nat → ClassId) (σ : sS) (fc : Nat) (hfc : fc ≤ 6) (hc : σ 0 3 = nI fc) (j : Nat) (hj : j < fc) (w : Nat) (hw6 : w < 6) : sMi l yX3_ofFamily wsX3_ofFamily ({ frames := 3, cells := 0, slots := 0, locals := 67 }) D a cs [.ref (a 0), .int (nI j), .int (nI w)] σ (f_X0_read (σ (22 + j)) w) σ := by
  intro sz
  refine Met.ofW (cc := cX3_ofFamily) (maxL := 3) (ret := (some .int)) (by decide) rfl ?_
  intro p e s m args below meth c s₁ B hml hv
  obtain ⟨rfl, hsz, hv2⟩ := hv
  have hv3 : sB D a cs σ sz s := ⟨hsz, hv2⟩
  subst hsz
  have hw := sH_start hv3
  obtain ⟨-, -, hK, -, hN⟩ := hv3
  have hx := B.exec
  have hb := B.bytes
  have hr := B.returns
  have hts := atoms_spec (ws := wsX3_ofFamily) B.pre
  have hown : s.vm.findClass RX3 = some m.cls := findClass_of_methodNamed B.named
  have hlocks := B.notSynchronized
  have hA : ∀ q : Nat, s.heap.size ≤ q → sA a s.heap.size q := sA_new
  have hl := lv_entry ([.ref (a 0), .int (nI j), .int (nI w)]) (n := 3) (Nat.le_of_ble_eq_true rfl)
  rw [lg_entry_eq]
  generalize (lg_sl ([.ref (a 0), .int (nI j), .int (nI w)]) ++ List.replicate (3 - (lg_sl ([.ref (a 0), .int (nI j), .int (nI w)])).length) Slot.unset).toArray = ls at hl ⊢
  have hl : lv_has ls 3 [(0, .ref (a 0)), (1, .int (nI j)), (2, .int (nI w))] := hl
  refine lv_aload_n hx hb dX3_ofFamily_0 rfl (lv_at hl 0 rfl) ?_
  refine lv_iload_n hx hb dX3_ofFamily_1 rfl (lv_at hl 1 rfl) ?_
  refine sc_v (sr_V (i := 0) (As := [.int (nI j)]) (rest := []) ⟨hx, hb, hml, hown, hts⟩ (zX3_needFamily l D a cs _ j (by omega) (by rw [hc]; exact nI_lt (by omega) (by omega)) _) (cwV 1 hts gX3_ofFamily_X3_needFamily rfl rfl rfl (by decide +kernel) ⟨Nat.le_of_ble_eq_true rfl, Nat.le_of_ble_eq_true rfl⟩) hK hN hw (by omega) sE_o kcX3 rfl hl.1 (Nat.le_of_ble_eq_true rfl) dX3_ofFamily_2 ⟨Nat.le_of_ble_eq_true rfl, Nat.le_of_ble_eq_true rfl⟩) hw hA (fun H locs hw => ?_)
  refine lv_iload_n hx hb dX3_ofFamily_5 rfl (lv_at hl 2 rfl) ?_
  refine lv_if_lt (tgt := 14) hx hb dX3_ofFamily_6 (by decide) (fun c1 => absurd c1 (nI_pos (n := w) (by omega))) (fun c1 => ?_)
  refine lv_iload_n hx hb dX3_ofFamily_9 rfl (lv_at hl 2 rfl) ?_
  refine lv_iconst (v := 5) hx hb dX3_ofFamily_10 (by decide) ?_
  refine lv_icmp_le (tgt := 24) hx hb dX3_ofFamily_11 (by decide) (fun c2 => ?_) (fun c2 => absurd (nI_le (a := w) (b := 5) (by omega) (by decide)) c2)
  refine lv_aload_n hx hb dX3_ofFamily_24 rfl (lv_at hl 0 rfl) ?_
  refine sg_oq hx hb hts iX3_ofFamily_X3 hown hK hw 2 (Or.inr (Or.inr ⟨rfl, rfl⟩)) (hts _ mX3_ofFamily_0) dX3_ofFamily_25 ?_
  refine lv_iload_n hx hb dX3_ofFamily_28 rfl (lv_at hl 1 rfl) ?_
  refine sg_g (k := j) hx hb hK hw (by omega) rfl dX3_ofFamily_29 ?_
  refine lv_iload_n hx hb dX3_ofFamily_30 rfl (lv_at hl 2 rfl) ?_
  refine sc_i (sr_V (i := 22 + j) (As := [.int (nI w)]) (rest := []) ⟨hx, hb, hml, hown, hts⟩ (zX0_read l D a cs _ j (by omega) w (by omega) _) (cwV 1 hts gX3_ofFamily_X0_read rfl rfl rfl (by decide +kernel) ⟨Nat.le_of_ble_eq_true rfl, Nat.le_of_ble_eq_true rfl⟩) hK hN hw (by omega) (sE_f (by omega)) kcX0 rfl hl.1 (Nat.le_of_ble_eq_true rfl) dX3_ofFamily_31 ⟨Nat.le_of_ble_eq_true rfl, Nat.le_of_ble_eq_true rfl⟩) hw hA (fun H locs hw => ?_)
  exact se_i hx hb hr hlocks hw (by exact rfl) (by rfl) dX3_ofFamily_34
theorem mX3_rightOf_0 : (Cond.fieldLink RX3 21 "SaltRow" "families" "[LSaltRow$Family;") ∈ wsX3_rightOf := by decide +kernel
theorem iX3_rightOf_X3 : ∀ w ∈ wsX30, w ∈ wsX3_rightOf := by decide +kernel
theorem mX3_rightOf_2 : (Cond.fieldLink RX3 139 "SaltRow$Family" "rights" "[I") ∈ wsX3_rightOf := by decide +kernel
theorem iX3_rightOf_X0 : ∀ w ∈ wsX00, w ∈ wsX3_rightOf := by decide +kernel
set_option maxHeartbeats 4000000 in
set_option maxRecDepth 100000 in
theorem zX3_rightOf (l : Launch) (D : va_G) (a : Nat → Nat) (cs : Nat → ClassId) (σ : sS) (fc : Nat) (hfc : fc ≤ 6) (hc : σ 0 3 = nI fc) (j : Nat) (hj : j < fc) (q : Nat) (hq : q < 3) : sMi l yX3_rightOf wsX3_rightOf ({ frames := 1, cells := 0, slots := 0, locals := 21 }) D a cs [.ref (a 0), .int (nI j), .int (nI (5 + q))] σ (σ (28 + j) q) σ := by
  intro sz
  refine Met.ofW (cc := cX3_rightOf) (maxL := 3) (ret := (some .int)) (by decide) rfl ?_
  intro p e s m args below meth c s₁ B hml hv
  obtain ⟨rfl, hsz, hv2⟩ := hv
  have hv3 : sB D a cs σ sz s := ⟨hsz, hv2⟩
  subst hsz
  have hw := sH_start hv3
  obtain ⟨-, -, hK, -, hN⟩ := hv3
  have hx := B.exec
  have hb := B.bytes
  have hr := B.returns
  have hts := atoms_spec (ws := wsX3_rightOf) B.pre
  have hown : s.vm.findClass RX3 = some m.cls := findClass_of_methodNamed B.named
  have hlocks := B.notSynchronized
  have hA : ∀ q : Nat, s.heap.size ≤ q → sA a s.heap.size q := sA_new
  have hl := lv_entry ([.ref (a 0), .int (nI j), .int (nI (5 + q))]) (n := 3) (Nat.le_of_ble_eq_true rfl)
  rw [lg_entry_eq]
  generalize (lg_sl ([.ref (a 0), .int (nI j), .int (nI (5 + q))]) ++ List.replicate (3 - (lg_sl ([.ref (a 0), .int (nI j), .int (nI (5 + q))])).length) Slot.unset).toArray = ls at hl ⊢
  have hl : lv_has ls 3 [(0, .ref (a 0)), (1, .int (nI j)), (2, .int (nI (5 + q)))] := hl
  refine lv_aload_n hx hb dX3_rightOf_0 rfl (lv_at hl 0 rfl) ?_
  refine lv_iload_n hx hb dX3_rightOf_1 rfl (lv_at hl 1 rfl) ?_
  refine sc_v (sr_V (i := 0) (As := [.int (nI j)]) (rest := []) ⟨hx, hb, hml, hown, hts⟩ (zX3_needFamily l D a cs _ j (by omega) (by rw [hc]; exact nI_lt (by omega) (by omega)) _) (cwV 1 hts gX3_rightOf_X3_needFamily rfl rfl rfl (by decide +kernel) ⟨Nat.le_of_ble_eq_true rfl, Nat.le_of_ble_eq_true rfl⟩) hK hN hw (by omega) sE_o kcX3 rfl hl.1 (Nat.le_of_ble_eq_true rfl) dX3_rightOf_2 ⟨Nat.le_of_ble_eq_true rfl, Nat.le_of_ble_eq_true rfl⟩) hw hA (fun H locs hw => ?_)
  refine lv_aload_n hx hb dX3_rightOf_5 rfl (lv_at hl 0 rfl) ?_
  refine lv_iload_n hx hb dX3_rightOf_6 rfl (lv_at hl 2 rfl) ?_
  refine sc_v (sr_V (i := 0) (As := [.int (nI (5 + q))]) (rest := []) ⟨hx, hb, hml, hown, hts⟩ (zX3_needPan l D a cs _ q (by omega) _) (cwV 1 hts gX3_rightOf_X3_needPan rfl rfl rfl (by decide +kernel) ⟨Nat.le_of_ble_eq_true rfl, Nat.le_of_ble_eq_true rfl⟩) hK hN hw (by omega) sE_o kcX3 rfl hl.1 (Nat.le_of_ble_eq_true rfl) dX3_rightOf_7 ⟨Nat.le_of_ble_eq_true rfl, Nat.le_of_ble_eq_true rfl⟩) hw hA (fun H locs hw => ?_)
  refine lv_aload_n hx hb dX3_rightOf_10 rfl (lv_at hl 0 rfl) ?_
  refine sg_oq hx hb hts iX3_rightOf_X3 hown hK hw 2 (Or.inr (Or.inr ⟨rfl, rfl⟩)) (hts _ mX3_rightOf_0) dX3_rightOf_11 ?_
  refine lv_iload_n hx hb dX3_rightOf_14 rfl (lv_at hl 1 rfl) ?_
  refine sg_g (k := j) hx hb hK hw (by omega) rfl dX3_rightOf_15 ?_
  refine sg_fq (j := j) hx hb hts iX3_rightOf_X0 hown hK hw (by omega) (hts _ mX3_rightOf_2) dX3_rightOf_16 ?_
  refine lv_iload_n hx hb dX3_rightOf_19 rfl (lv_at hl 2 rfl) ?_
  refine lv_iconst (v := 5) hx hb dX3_rightOf_20 (by decide) ?_
  refine lv_isub hx hb dX3_rightOf_21 ?_
  refine sg_h (j := j) (k := q) hx hb hK hw (by omega) (by omega) (nI_sub5 q) dX3_rightOf_22 ?_
  exact se_i hx hb hr hlocks hw (by exact rfl) (by rfl) dX3_rightOf_23
theorem mX3_pass_0 : (Cond.fieldLink RX3 10 "SaltRow" "row" "LSaltRow$Row;") ∈ wsX3_pass := by decide +kernel
theorem iX3_pass_X3 : ∀ w ∈ wsX30, w ∈ wsX3_pass := by decide +kernel
theorem mX3_pass_2 : (Cond.fieldLink RX3 37 "SaltRow$Row" "day" "I") ∈ wsX3_pass := by decide +kernel
theorem iX3_pass_X2 : ∀ w ∈ wsX20, w ∈ wsX3_pass := by decide +kernel
set_option maxHeartbeats 4000000 in
set_option maxRecDepth 100000 in
theorem zX3_pass (l : Launch) (D : va_G) (a : Nat → Nat) (cs : Nat → ClassId) (σ : sS) (n0 : Nat) (hn : 1 ≤ n0 ∧ n0 ≤ 30) (x y z : Int32) (hx0 : ¬ x < 0) (hx9 : x ≤ 9) (hy0 : ¬ y < 0) (hy9 : y ≤ 9) (hz0 : ¬ z < 0) (hz40 : z ≤ 40) (hd : σ (1 + 0) 1 + nI n0 ≤ 5000) : sMi l yX3_pass wsX3_pass ({ frames := 4, cells := 0, slots := 0, locals := 99 }) D a cs [.ref (a 0), .int (nI n0), .int x, .int y, .int z] σ (f_X3_fell x y z n0 σ 0) (f_X3_days 0 x y z n0 σ) := by
  intro sz
  refine Met.ofW (cc := cX3_pass) (maxL := 7) (ret := (some .int)) (by decide) rfl ?_
  intro p e s m args below meth c s₁ B hml hv
  obtain ⟨rfl, hsz, hv2⟩ := hv
  have hv3 : sB D a cs σ sz s := ⟨hsz, hv2⟩
  subst hsz
  have hw := sH_start hv3
  obtain ⟨-, -, hK, -, hN⟩ := hv3
  have hx := B.exec
  have hb := B.bytes
  have hr := B.returns
  have hts := atoms_spec (ws := wsX3_pass) B.pre
  have hown : s.vm.findClass RX3 = some m.cls := findClass_of_methodNamed B.named
  have hlocks := B.notSynchronized
  have hA : ∀ q : Nat, s.heap.size ≤ q → sA a s.heap.size q := sA_new
  have hl := lv_entry ([.ref (a 0), .int (nI n0), .int x, .int y, .int z]) (n := 7) (Nat.le_of_ble_eq_true rfl)
  rw [lg_entry_eq]
  generalize (lg_sl ([.ref (a 0), .int (nI n0), .int x, .int y, .int z]) ++ List.replicate (7 - (lg_sl ([.ref (a 0), .int (nI n0), .int x, .int y, .int z])).length) Slot.unset).toArray = ls at hl ⊢
  have hl : lv_has ls 7 [(0, .ref (a 0)), (1, .int (nI n0)), (2, .int x), (3, .int y), (4, .int z)] := hl
  refine lv_iload_n hx hb dX3_pass_0 rfl (lv_at hl 1 rfl) ?_
  refine lv_iconst (v := 1) hx hb dX3_pass_1 (by decide) ?_
  refine lv_icmp_lt (tgt := 11) hx hb dX3_pass_2 (by decide) (fun c1 => absurd c1 (nI_nlt (a := n0) (b := 1) (by omega) (by omega))) (fun c1 => ?_)
  refine lv_iload_n hx hb dX3_pass_5 rfl (lv_at hl 1 rfl) ?_
  refine lv_bipush (v := 30) hx hb dX3_pass_6 (by decide) ?_
  refine lv_icmp_le (tgt := 21) hx hb dX3_pass_8 (by decide) (fun c2 => ?_) (fun c2 => absurd (nI_le (a := n0) (b := 30) (by omega) (by decide)) c2)
  refine lv_aload_n hx hb dX3_pass_21 rfl (lv_at hl 0 rfl) ?_
  refine lv_iload_n hx hb dX3_pass_22 rfl (lv_at hl 2 rfl) ?_
  refine lv_iload_n hx hb dX3_pass_23 rfl (lv_at hl 3 rfl) ?_
  refine sc_v (sr_V (i := 0) (As := [.int x, .int y]) (rest := []) ⟨hx, hb, hml, hown, hts⟩ (zX3_needWeather l D a cs _ x y hx0 hx9 hy0 hy9 _) (cwV 2 hts gX3_pass_X3_needWeather rfl rfl rfl (by decide +kernel) ⟨Nat.le_of_ble_eq_true rfl, Nat.le_of_ble_eq_true rfl⟩) hK hN hw (by omega) sE_o kcX3 rfl hl.1 (Nat.le_of_ble_eq_true rfl) dX3_pass_24 ⟨Nat.le_of_ble_eq_true rfl, Nat.le_of_ble_eq_true rfl⟩) hw hA (fun H locs hw => ?_)
  refine lv_iload hx hb dX3_pass_27 (lv_at hl 4 rfl) ?_
  refine lv_if_lt (tgt := 39) hx hb dX3_pass_29 (by decide) (fun c3 => absurd c3 hz0) (fun c3 => ?_)
  refine lv_iload hx hb dX3_pass_32 (lv_at hl 4 rfl) ?_
  refine lv_bipush (v := 40) hx hb dX3_pass_34 (by decide) ?_
  refine lv_icmp_le (tgt := 49) hx hb dX3_pass_36 (by decide) (fun c4 => ?_) (fun c4 => absurd hz40 c4)
  refine lv_aload_n hx hb dX3_pass_49 rfl (lv_at hl 0 rfl) ?_
  refine sg_oq hx hb hts iX3_pass_X3 hown hK hw 0 (Or.inl ⟨rfl, rfl⟩) (hts _ mX3_pass_0) dX3_pass_50 ?_
  refine sg_r (r := 0) hx hb hts iX3_pass_X2 hown hK hw (by omega) 1 (by decide) (hts _ mX3_pass_2) dX3_pass_53 ?_
  refine lv_iload_n hx hb dX3_pass_56 rfl (lv_at hl 1 rfl) ?_
  refine lv_iadd hx hb dX3_pass_57 ?_
  refine lv_sipush (v := 5000) hx hb dX3_pass_58 (by decide) ?_
  refine lv_icmp_le (tgt := 74) hx hb dX3_pass_61 (by decide) (fun c5 => ?_) (fun c5 => absurd hd c5)
  refine lv_iconst (v := 0) hx hb dX3_pass_74 (by decide) ?_
  refine lv_istore (lv' := [(5, .int 0), (0, .ref (a 0)), (1, .int (nI n0)), (2, .int x), (3, .int y), (4, .int z)]) hx hb dX3_pass_75 hl (by decide) rfl (fun ls hl => ?_)
  refine lv_iconst (v := 0) hx hb dX3_pass_77 (by decide) ?_
  refine lv_istore (lv' := [(6, .int 0), (5, .int 0), (0, .ref (a 0)), (1, .int (nI n0)), (2, .int x), (3, .int y), (4, .int z)]) hx hb dX3_pass_78 hl (by decide) rfl (fun ls hl => ?_)
  have loop : ∀ (Q : State → Prop) (n : Nat) (k : Nat) (τ : sS) (v : Int32) (H : Heap) (locs : List Loc) (ls : Array Slot), k + n = n0 → sH D a cs (sA a s.heap.size) s.heap τ H locs → lv_has ls 7 [(0, .ref (a 0)), (1, .int (nI n0)), (2, .int x), (3, .int y), (4, .int z), (5, .int v), (6, .int (nI k))] → (∀ (H : Heap) (locs : List Loc) (ls : Array Slot), sH D a cs (sA a s.heap.size) s.heap (f_X3_days 0 x y z n τ) H locs → lv_has ls 7 [(5, .int (f_X3_fell x y z n τ v))] → W p l e { frames := 4, cells := 0, slots := 0, locals := 99 } s m #[Value.ref (a 0), Value.int (nI n0), Value.int x, Value.int y, Value.int z] below meth c H locs 0 0 Q (F0 m 115 ls [])) → W p l e { frames := 4, cells := 0, slots := 0, locals := 99 } s m #[Value.ref (a 0), Value.int (nI n0), Value.int x, Value.int y, Value.int z] below meth c H locs 0 0 Q (F0 m 80 ls []) := by
    intro Q n
    induction n with
    | zero =>
      intro k τ v H locs ls hkn hw hl kont
      refine lv_iload hx hb dX3_pass_80 (lv_at hl 6 rfl) ?_
      refine lv_iload_n hx hb dX3_pass_82 rfl (lv_at hl 1 rfl) ?_
      refine lv_icmp_ge (tgt := 115) hx hb dX3_pass_83 (by decide) (fun c6 => ?_) (fun c6 => absurd (by rw [show k = n0 by omega]; exact Int32.le_refl _) c6)
      exact kont H locs ls hw (lv_sub hl [5] rfl)
    | succ n ih =>
      intro k τ v H locs ls hkn hw hl kont
      refine lv_iload hx hb dX3_pass_80 (lv_at hl 6 rfl) ?_
      refine lv_iload_n hx hb dX3_pass_82 rfl (lv_at hl 1 rfl) ?_
      refine lv_icmp_ge (tgt := 115) hx hb dX3_pass_83 (by decide) (fun c7 => absurd c7 (nI_ge (by omega) (by omega))) (fun c7 => ?_)
      refine lv_aload_n hx hb dX3_pass_86 rfl (lv_at hl 0 rfl) ?_
      refine sg_oq hx hb hts iX3_pass_X3 hown hK hw 0 (Or.inl ⟨rfl, rfl⟩) (hts _ mX3_pass_0) dX3_pass_87 ?_
      refine lv_iload_n hx hb dX3_pass_90 rfl (lv_at hl 2 rfl) ?_
      refine lv_iload_n hx hb dX3_pass_91 rfl (lv_at hl 3 rfl) ?_
      refine lv_iload hx hb dX3_pass_92 (lv_at hl 4 rfl) ?_
      refine sc_v (sr_V (i := 1 + 0) (As := [.int x, .int y, .int z]) (rest := []) ⟨hx, hb, hml, hown, hts⟩ (zX2_letDayGoBy l D a cs _ 0 (by omega) x y z _) (cwV 3 hts gX3_pass_X2_letDayGoBy rfl rfl rfl (by decide +kernel) ⟨Nat.le_of_ble_eq_true rfl, Nat.le_of_ble_eq_true rfl⟩) hK hN hw (by omega) (sE_r (by omega)) kcX2 rfl hl.1 (Nat.le_of_ble_eq_true rfl) dX3_pass_94 ⟨Nat.le_of_ble_eq_true rfl, Nat.le_of_ble_eq_true rfl⟩) hw hA (fun H locs hw => ?_)
      obtain ⟨τ8, eτ8⟩ : ∃ zz : sS, f_X2_letDayGoBy τ 0 x y z = zz := ⟨_, rfl⟩
      rw [eτ8] at hw
      refine lv_iload hx hb dX3_pass_97 (lv_at hl 5 rfl) ?_
      refine lv_aload_n hx hb dX3_pass_99 rfl (lv_at hl 0 rfl) ?_
      refine sg_oq hx hb hts iX3_pass_X3 hown hK hw 0 (Or.inl ⟨rfl, rfl⟩) (hts _ mX3_pass_0) dX3_pass_100 ?_
      refine sc_i (sr_V (i := 1 + 0) (As := []) (rest := [.int v]) ⟨hx, hb, hml, hown, hts⟩ (zX2_saltFallenInPans l D a cs _ 0 (by omega) _) (cwV 0 hts gX3_pass_X2_saltFallenInPans rfl rfl rfl (by decide +kernel) ⟨Nat.le_of_ble_eq_true rfl, Nat.le_of_ble_eq_true rfl⟩) hK hN hw (by omega) (sE_r (by omega)) kcX2 rfl hl.1 (Nat.le_of_ble_eq_true rfl) dX3_pass_103 ⟨Nat.le_of_ble_eq_true rfl, Nat.le_of_ble_eq_true rfl⟩) hw hA (fun H locs hw => ?_)
      refine lv_iadd hx hb dX3_pass_106 ?_
      refine lw_topi (fun x9 ex9 => ?_)
      refine lv_istore (lv' := [(5, .int x9), (0, .ref (a 0)), (1, .int (nI n0)), (2, .int x), (3, .int y), (4, .int z), (6, .int (nI k))]) hx hb dX3_pass_107 hl (by decide) rfl (fun ls hl => ?_)
      refine lv_iinc (v := nI (k + 1)) (lv' := [(6, .int (nI (k + 1))), (5, .int x9), (0, .ref (a 0)), (1, .int (nI n0)), (2, .int x), (3, .int y), (4, .int z)]) hx hb dX3_pass_109 hl (k := 6) rfl (nI_1 k) (by decide) rfl (fun ls hl => ?_)
      refine lv_goto (tgt := 80) hx hb dX3_pass_112 (by decide) ?_
      have hstep : f_X3_days 0 x y z (n + 1) τ = f_X3_days 0 x y z n τ8 := by
        subst ex9 eτ8; rfl
      have hval0 : f_X3_fell x y z (n + 1) τ v = f_X3_fell x y z n τ8 x9 := by
        subst ex9 eτ8; rfl
      exact ih (k + 1) τ8 x9 H locs ls (by omega) hw (lv_sub hl [2, 3, 4, 5, 6, 1, 0] rfl) (fun H locs ls hw hl => kont H locs ls (by rw [hstep]; exact hw) (by rw [hval0]; exact hl))
  refine loop _ n0 0 σ 0 _ _ _ (Nat.zero_add n0) hw (lv_sub hl [2, 3, 4, 5, 6, 1, 0] rfl) (fun H locs ls hw hl => ?_)
  obtain ⟨τ10, eτ10⟩ : ∃ zz : sS, f_X3_days 0 x y z n0 σ = zz := ⟨_, rfl⟩
  rw [eτ10] at hw
  refine lv_iload hx hb dX3_pass_115 (lv_at hl 0 rfl) ?_
  exact se_i hx hb hr hlocks hw (by subst eτ10; exact rfl) (by subst eτ10; exact rfl) dX3_pass_117
end
section
/-! What a row's day, gates and copy leave alone; what the object answers and changes (second part). -/
/-- not a cell of row r -/
def sO (r i : Nat) : Prop := i ≠ 1 + r ∧ (i < 5 + 8 * r ∨ 13 + 8 * r ≤ i)
theorem k_give {σ : sS} {i j k : Nat} {x : Int32} (h1 : k ≠ i) (h2 : k ≠ j) : f_X1_giveBrine σ i j x k = σ k := by
  unfold f_X1_giveBrine
  rw [va_up_ne _ _ h2, va_up_ne _ _ h1]
theorem k_sea {σ : sS} {r i : Nat} (h : sO r i) : f_X2_letSeaIn σ r i = σ i := by
  have h2 := h.2
  unfold f_X2_letSeaIn
  split
  · rfl
  · split
    · rfl
    · unfold f_X2_sea
      rw [va_up_ne _ _ h.1, va_up_ne _ _ (by omega)]
theorem k_flowStep {σ : sS} {r n i : Nat} (hn : n < 7) (h : sO r i) : f_X2_flowStep σ r n i = σ i := by
  have h2 := h.2
  unfold f_X2_flowStep
  split
  · rfl
  · split
    · rfl
    · exact k_give (by omega) (by omega)
theorem k_flow {r i : Nat} (h : sO r i) : ∀ (n : Nat) (σ : sS), n ≤ 7 → f_X2_flow r n σ i = σ i
  | 0, _, _ => rfl
  | n + 1, σ, hn => (k_flow h n (f_X2_flowStep σ r n) (by omega)).trans (k_flowStep (by omega) h)
theorem k_pond {σ : sS} {r k i : Nat} {z : Int32} (h : i ≠ 5 + 8 * r + k) : f_X2_pond σ r k z i = σ i := by
  unfold f_X2_pond
  rw [va_up_ne _ _ h, va_up_ne _ _ h, va_up_ne _ _ h, va_up_ne _ _ h, va_up_ne _ _ h]
theorem k_ponds {r i : Nat} {z : Int32} (h : sO r i) : ∀ (n k : Nat) (σ : sS), k + n ≤ 8 → f_X2_ponds r z n k σ i = σ i
  | 0, _, _, _ => rfl
  | n + 1, k, σ, hk => (k_ponds h n (k + 1) (f_X2_pond σ r k z) (by omega)).trans (k_pond (by have := h.2; omega))
theorem k_start {σ : sS} {r i : Nat} {x y : Int32} (h : i ≠ 1 + r) : f_X2_start σ r x y i = σ i := by
  unfold f_X2_start
  rw [va_up_ne _ _ h, va_up_ne _ _ h, va_up_ne _ _ h]
theorem k_day {σ : sS} {r i : Nat} {x y z : Int32} (h : sO r i) : f_X2_letDayGoBy σ r x y z i = σ i := by
  unfold f_X2_letDayGoBy
  rw [k_ponds h _ _ _ (by omega)]
  unfold f_X2_letBrineFlowOn
  rw [k_flow h _ _ (by omega), k_sea h, k_start h.1]
theorem k_days {r i : Nat} {x y z : Int32} (h : sO r i) : ∀ (n : Nat) (σ : sS), f_X3_days r x y z n σ i = σ i
  | 0, _ => rfl
  | n + 1, σ => (k_days h n (f_X2_letDayGoBy σ r x y z)).trans (k_day h)
theorem k_gates {r i : Nat} {x : Int32} (h : sO r i) : ∀ (n k : Nat) (σ : sS), k + n ≤ 8 → f_X2_gates r x n k σ i = σ i
  | 0, _, _, _ => rfl
  | n + 1, k, σ, hk => (k_gates h n (k + 1) _ (by omega)).trans (va_up_ne _ _ (by have := h.2; omega))
theorem k_cp {i : Nat} (h : sO 1 i) : ∀ (n k : Nat) (σ : sS), k + n ≤ 8 → f_X2_cp n k σ i = σ i
  | 0, _, _, _ => rfl
  | n + 1, k, σ, hk => (k_cp h n (k + 1) _ (by omega)).trans (va_up_ne _ _ (by have := h.2; omega))
theorem k_copy {σ : sS} {i : Nat} (h : sO 1 i) : f_X2_copyFrom σ i = σ i := (k_cp h 8 0 _ (by omega)).trans (va_up_ne _ _ h.1)
theorem sZ_of {σ τ : sS} (h : sZ σ) (hk : ∀ i, sO 1 i → τ i = σ i) : sZ τ := fun k hk8 q h1 h2 => by
  rw [hk _ ⟨by omega, by omega⟩]
  exact h k hk8 q h1 h2
def f_X3_withS (σ : sS) (g d : Nat) (x y : Int32) : sS := f_X3_days 1 x y 0 d (f_X2_setGates (f_X2_copyFrom σ) 1 (nI g))
def f_X3_withV (σ : sS) (g d : Nat) (x y : Int32) : Int32 := f_X2_saltInPans (f_X3_withS σ g d x y) 1
theorem k_with {σ : sS} {g d i : Nat} {x y : Int32} (h : sO 1 i) : f_X3_withS σ g d x y i = σ i := by
  unfold f_X3_withS f_X2_setGates
  rw [k_days h, k_gates h _ _ _ (by omega), k_copy h]
def f_X3_bestS (d : Nat) (x y : Int32) : Nat → Nat → sS → sS
  | 0, _, σ => σ
  | n + 1, k, σ => f_X3_bestS d x y n (k + 1) (f_X3_withS σ k d x y)
def f_X3_bestB (d : Nat) (x y : Int32) : Nat → Nat → sS → Int32 → Int32 → Int32
  | 0, _, _, b, _ => b
  | n + 1, k, σ, b, m => f_X3_bestB d x y n (k + 1) (f_X3_withS σ k d x y) (if f_X3_withV σ k d x y ≤ m then b else nI k) (if f_X3_withV σ k d x y ≤ m then m else f_X3_withV σ k d x y)
def f_X3_bestM (d : Nat) (x y : Int32) : Nat → Nat → sS → Int32 → Int32
  | 0, _, _, m => m
  | n + 1, k, σ, m => f_X3_bestM d x y n (k + 1) (f_X3_withS σ k d x y) (if f_X3_withV σ k d x y ≤ m then m else f_X3_withV σ k d x y)
def f_X3_bestGates (σ : sS) (d : Nat) (x y : Int32) : Int32 := f_X3_bestB d x y 256 0 σ 0 (-1)
theorem k_bestS {d i : Nat} {x y : Int32} (h : sO 1 i) : ∀ (n k : Nat) (σ : sS), f_X3_bestS d x y n k σ i = σ i
  | 0, _, _ => rfl
  | n + 1, k, σ => (k_bestS h n (k + 1) _).trans (k_with h)
def f_X3_crustS (q : Nat) (x y : Int32) : Nat → Nat → sS → sS
  | 0, _, σ => σ
  | n + 1, k, σ => if f_X2_letDayGoBy σ 1 x y 0 (5 + 8 * 1 + (5 + q)) 8 ≤ 0 then f_X3_crustS q x y n (k + 1) (f_X2_letDayGoBy σ 1 x y 0) else f_X2_letDayGoBy σ 1 x y 0
def f_X3_crustV (q : Nat) (x y : Int32) : Nat → Nat → sS → Int32
  | 0, _, _ => -1
  | n + 1, k, σ => if f_X2_letDayGoBy σ 1 x y 0 (5 + 8 * 1 + (5 + q)) 8 ≤ 0 then f_X3_crustV q x y n (k + 1) (f_X2_letDayGoBy σ 1 x y 0) else nI k
def f_X3_crustIn (σ : sS) (q : Nat) (x y : Int32) : sS := f_X3_crustS q x y 60 1 (f_X2_copyFrom σ)
def f_X3_crustInV (σ : sS) (q : Nat) (x y : Int32) : Int32 := f_X3_crustV q x y 60 1 (f_X2_copyFrom σ)
theorem k_crustS {q i : Nat} {x y : Int32} (h : sO 1 i) : ∀ (n k : Nat) (σ : sS), f_X3_crustS q x y n k σ i = σ i
  | 0, _, _ => rfl
  | n + 1, k, σ => by
    unfold f_X3_crustS
    split
    · exact (k_crustS h n (k + 1) _).trans (k_day h)
    · exact k_day h
theorem k_crustIn {σ : sS} {q i : Nat} {x y : Int32} (h : sO 1 i) : f_X3_crustIn σ q x y i = σ i := (k_crustS h _ _ _).trans (k_copy h)
def f_X3_tideV (x h : Int32) : Nat → Nat → sS → Int32
  | 0, _, _ => -1
  | n + 1, k, σ => if h = 0 then (if x < f_X3_tideAt (σ (1 + 0) 1 + nI k) then f_X3_tideV x h n (k + 1) σ else σ (1 + 0) 1 + nI k)
    else (if f_X3_tideAt (σ (1 + 0) 1 + nI k) < x then f_X3_tideV x h n (k + 1) σ else σ (1 + 0) 1 + nI k)
def f_X3_tideOn (σ : sS) (x h : Int32) : Int32 := f_X3_tideV x h 14 0 σ
def f_X3_many (σ : sS) (fc : Nat) : Nat → Int32
  | 0 => σ (1 + 0) 1
  | 1 => σ 0 3
  | 2 => f_X2_openGates σ 0
  | 3 => f_X2_coveredPans σ 0
  | 4 => σ (1 + 0) 4
  | 5 => f_X2_sumOfPonds σ 0 2
  | 6 => f_X2_sumOfPonds σ 0 6
  | 7 => f_X3_sumOfFamilies σ 0 fc
  | 8 => f_X3_sumOfFamilies σ 5 fc
  | 9 => σ 0 5
  | 10 => σ 0 6
  | 11 => σ 0 7
  | 12 => f_X2_sumOfPonds σ 0 7
  | 13 => σ 0 8
  | 14 => f_X2_sumOfPonds σ 0 1
  | 15 => f_X2_sumOfPonds σ 0 5
  | 16 => σ 0 4
  | _ => σ 0 9
def f_dg (d : Int64) (v : Int32) : Int64 := d * 31 + v.toInt64
def f_dgA (σ : sS) (j : Nat) : Nat → Nat → Int64 → Int64
  | 0, _, d => d
  | n + 1, k, d => f_dgA σ j n (k + 1) (d * 31 + (f_X0_read (σ (22 + j)) k).toInt64)
def f_dgB (σ : sS) (j : Nat) : Nat → Nat → Int64 → Int64
  | 0, _, d => d
  | n + 1, k, d => f_dgB σ j n (k + 1) (d * 31 + (σ (28 + j) k).toInt64)
def f_X3_digestOfFamily (σ : sS) (j : Nat) (d : Int64) : Int64 := f_dgB σ j 3 0 (f_dgA σ j 6 0 d)
def f_dgM (σ : sS) (fc : Nat) : Nat → Nat → Int64 → Int64
  | 0, _, d => d
  | n + 1, k, d => f_dgM σ fc n (k + 1) (d * 31 + (f_X3_many σ fc k).toInt64)
def f_dgR (f : Nat → Int32) : Nat → Nat → Int64 → Int64
  | 0, _, d => d
  | n + 1, k, d => f_dgR f n (k + 1) (d * 31 + (f_X1_read f k).toInt64)
def f_dgP (σ : sS) : Nat → Nat → Int64 → Int64
  | 0, _, d => d
  | n + 1, k, d => f_dgP σ n (k + 1) (f_dgR (σ (5 + 8 * 0 + k)) 11 0 d)
def f_dgF (σ : sS) : Nat → Nat → Int64 → Int64
  | 0, _, d => d
  | n + 1, k, d => f_dgF σ n (k + 1) (f_X3_digestOfFamily σ k d)
def f_dgC : Nat → Nat → sS → Int64 → Int64
  | 0, _, _, d => d
  | n + 1, k, σ, d => f_dgC n (k + 1) (f_X3_crustIn σ k 7 3) (d * 31 + (f_X3_crustInV σ k 7 3).toInt64)
def f_dgS : Nat → Nat → sS → sS
  | 0, _, σ => σ
  | n + 1, k, σ => f_dgS n (k + 1) (f_X3_crustIn σ k 7 3)
theorem k_dgS {i : Nat} (h : sO 1 i) : ∀ (n k : Nat) (σ : sS), f_dgS n k σ i = σ i
  | 0, _, _ => rfl
  | n + 1, k, σ => (k_dgS h n (k + 1) _).trans (k_crustIn h)
def f_X3_digestS (σ : sS) : sS := f_X3_bestS 3 6 2 256 0 (f_dgS 3 0 σ)
def f_X3_digest (σ : sS) (fc : Nat) : Int64 :=
  ((f_dgC 3 0 σ (f_dgF σ fc 0 (f_dgP σ 8 0 (f_dgM σ fc 18 0 7804))) * 31 + (f_X3_bestGates (f_dgS 3 0 σ) 3 6 2).toInt64) * 31 + (f_X3_tideOn (f_X3_digestS σ) 9 1).toInt64) * 31 + (f_X3_tideOn (f_X3_digestS σ) 3 0).toInt64
end
section
theorem mX3_many_0_0 : (Cond.fieldLink RX3 10 "SaltRow" "row" "LSaltRow$Row;") ∈ wsX3_many := by decide +kernel
theorem iX3_many_X3_0 : ∀ w ∈ wsX30, w ∈ wsX3_many := by decide +kernel
theorem mX3_many_2_0 : (Cond.fieldLink RX3 37 "SaltRow$Row" "day" "I") ∈ wsX3_many := by decide +kernel
theorem iX3_many_X2_0 : ∀ w ∈ wsX20, w ∈ wsX3_many := by decide +kernel
set_option maxHeartbeats 4000000 in
set_option maxRecDepth 100000 in
theorem zX3_many_0 (l : Launch) (D : va_G) (a : Nat → Nat) (cs : Nat → ClassId) (σ : sS) (fc : Nat) (hfc : fc ≤ 6) (hc : σ 0 3 = nI fc) : sMi l yX3_many wsX3_many ({ frames := 4, cells := 0, slots := 0, locals := 90 }) D a cs [.ref (a 0), .int (nI 0)] σ (f_X3_many σ fc 0) σ := by
  intro sz
  refine Met.ofW (cc := cX3_many) (maxL := 2) (ret := (some .int)) (by decide) rfl ?_
  intro p e s m args below meth c s₁ B hml hv
  obtain ⟨rfl, hsz, hv2⟩ := hv
  have hv3 : sB D a cs σ sz s := ⟨hsz, hv2⟩
  subst hsz
  have hw := sH_start hv3
  obtain ⟨-, -, hK, -, hN⟩ := hv3
  have hx := B.exec
  have hb := B.bytes
  have hr := B.returns
  have hts := atoms_spec (ws := wsX3_many) B.pre
  have hown : s.vm.findClass RX3 = some m.cls := findClass_of_methodNamed B.named
  have hlocks := B.notSynchronized
  have hA : ∀ q : Nat, s.heap.size ≤ q → sA a s.heap.size q := sA_new
  have hl := lv_entry ([.ref (a 0), .int (nI 0)]) (n := 2) (Nat.le_of_ble_eq_true rfl)
  rw [lg_entry_eq]
  generalize (lg_sl ([.ref (a 0), .int (nI 0)]) ++ List.replicate (2 - (lg_sl ([.ref (a 0), .int (nI 0)])).length) Slot.unset).toArray = ls at hl ⊢
  have hl : lv_has ls 2 [(0, .ref (a 0)), (1, .int (nI 0))] := hl
  refine lv_iload_n hx hb dX3_many_0 rfl (lv_at hl 1 rfl) ?_
  refine lv_tableIn (tgt := 88) hx hb dX3_many_1 (by decide) (by decide) (off := 87) (by decide +kernel) (by decide) ?_
  refine lv_aload_n hx hb dX3_many_88 rfl (lv_at hl 0 rfl) ?_
  refine sg_oq hx hb hts iX3_many_X3_0 hown hK hw 0 (Or.inl ⟨rfl, rfl⟩) (hts _ mX3_many_0_0) dX3_many_89 ?_
  refine sg_r (r := 0) hx hb hts iX3_many_X2_0 hown hK hw (by omega) 1 (by decide) (hts _ mX3_many_2_0) dX3_many_92 ?_
  exact se_i hx hb hr hlocks hw (by exact rfl) (by rfl) dX3_many_95
theorem mX3_many_0_1 : (Cond.fieldLink RX3 129 "SaltRow" "familyCount" "I") ∈ wsX3_many := by decide +kernel
theorem iX3_many_X3_1 : ∀ w ∈ wsX30, w ∈ wsX3_many := by decide +kernel
set_option maxHeartbeats 4000000 in
set_option maxRecDepth 100000 in
theorem zX3_many_1 (l : Launch) (D : va_G) (a : Nat → Nat) (cs : Nat → ClassId) (σ : sS) (fc : Nat) (hfc : fc ≤ 6) (hc : σ 0 3 = nI fc) : sMi l yX3_many wsX3_many ({ frames := 4, cells := 0, slots := 0, locals := 90 }) D a cs [.ref (a 0), .int (nI 1)] σ (f_X3_many σ fc 1) σ := by
  intro sz
  refine Met.ofW (cc := cX3_many) (maxL := 2) (ret := (some .int)) (by decide) rfl ?_
  intro p e s m args below meth c s₁ B hml hv
  obtain ⟨rfl, hsz, hv2⟩ := hv
  have hv3 : sB D a cs σ sz s := ⟨hsz, hv2⟩
  subst hsz
  have hw := sH_start hv3
  obtain ⟨-, -, hK, -, hN⟩ := hv3
  have hx := B.exec
  have hb := B.bytes
  have hr := B.returns
  have hts := atoms_spec (ws := wsX3_many) B.pre
  have hown : s.vm.findClass RX3 = some m.cls := findClass_of_methodNamed B.named
  have hlocks := B.notSynchronized
  have hA : ∀ q : Nat, s.heap.size ≤ q → sA a s.heap.size q := sA_new
  have hl := lv_entry ([.ref (a 0), .int (nI 1)]) (n := 2) (Nat.le_of_ble_eq_true rfl)
  rw [lg_entry_eq]
  generalize (lg_sl ([.ref (a 0), .int (nI 1)]) ++ List.replicate (2 - (lg_sl ([.ref (a 0), .int (nI 1)])).length) Slot.unset).toArray = ls at hl ⊢
  have hl : lv_has ls 2 [(0, .ref (a 0)), (1, .int (nI 1))] := hl
  refine lv_iload_n hx hb dX3_many_0 rfl (lv_at hl 1 rfl) ?_
  refine lv_tableIn (tgt := 96) hx hb dX3_many_1 (by decide) (by decide) (off := 95) (by decide +kernel) (by decide) ?_
  refine lv_aload_n hx hb dX3_many_96 rfl (lv_at hl 0 rfl) ?_
  refine sg_o hx hb hts iX3_many_X3_1 hown hK hw 3 (by decide) (hts _ mX3_many_0_1) dX3_many_97 ?_
  exact se_i hx hb hr hlocks hw (by exact rfl) (by rfl) dX3_many_100
theorem mX3_many_0_2 : (Cond.fieldLink RX3 10 "SaltRow" "row" "LSaltRow$Row;") ∈ wsX3_many := by decide +kernel
theorem iX3_many_X3_2 : ∀ w ∈ wsX30, w ∈ wsX3_many := by decide +kernel
set_option maxHeartbeats 4000000 in
set_option maxRecDepth 100000 in
theorem zX3_many_2 (l : Launch) (D : va_G) (a : Nat → Nat) (cs : Nat → ClassId) (σ : sS) (fc : Nat) (hfc : fc ≤ 6) (hc : σ 0 3 = nI fc) : sMi l yX3_many wsX3_many ({ frames := 4, cells := 0, slots := 0, locals := 90 }) D a cs [.ref (a 0), .int (nI 2)] σ (f_X3_many σ fc 2) σ := by
  intro sz
  refine Met.ofW (cc := cX3_many) (maxL := 2) (ret := (some .int)) (by decide) rfl ?_
  intro p e s m args below meth c s₁ B hml hv
  obtain ⟨rfl, hsz, hv2⟩ := hv
  have hv3 : sB D a cs σ sz s := ⟨hsz, hv2⟩
  subst hsz
  have hw := sH_start hv3
  obtain ⟨-, -, hK, -, hN⟩ := hv3
  have hx := B.exec
  have hb := B.bytes
  have hr := B.returns
  have hts := atoms_spec (ws := wsX3_many) B.pre
  have hown : s.vm.findClass RX3 = some m.cls := findClass_of_methodNamed B.named
  have hlocks := B.notSynchronized
  have hA : ∀ q : Nat, s.heap.size ≤ q → sA a s.heap.size q := sA_new
  have hl := lv_entry ([.ref (a 0), .int (nI 2)]) (n := 2) (Nat.le_of_ble_eq_true rfl)
  rw [lg_entry_eq]
  generalize (lg_sl ([.ref (a 0), .int (nI 2)]) ++ List.replicate (2 - (lg_sl ([.ref (a 0), .int (nI 2)])).length) Slot.unset).toArray = ls at hl ⊢
  have hl : lv_has ls 2 [(0, .ref (a 0)), (1, .int (nI 2))] := hl
  refine lv_iload_n hx hb dX3_many_0 rfl (lv_at hl 1 rfl) ?_
  refine lv_tableIn (tgt := 101) hx hb dX3_many_1 (by decide) (by decide) (off := 100) (by decide +kernel) (by decide) ?_
  refine lv_aload_n hx hb dX3_many_101 rfl (lv_at hl 0 rfl) ?_
  refine sg_oq hx hb hts iX3_many_X3_2 hown hK hw 0 (Or.inl ⟨rfl, rfl⟩) (hts _ mX3_many_0_2) dX3_many_102 ?_
  refine sc_i (sr_V (i := 1 + 0) (As := []) (rest := []) ⟨hx, hb, hml, hown, hts⟩ (zX2_openGates l D a cs _ 0 (by omega) _) (cwV 0 hts gX3_many_X2_openGates rfl rfl rfl (by decide +kernel) ⟨Nat.le_of_ble_eq_true rfl, Nat.le_of_ble_eq_true rfl⟩) hK hN hw (by omega) (sE_r (by omega)) kcX2 rfl hl.1 (Nat.le_of_ble_eq_true rfl) dX3_many_105 ⟨Nat.le_of_ble_eq_true rfl, Nat.le_of_ble_eq_true rfl⟩) hw hA (fun H locs hw => ?_)
  exact se_i hx hb hr hlocks hw (by exact rfl) (by rfl) dX3_many_108
theorem mX3_many_0_3 : (Cond.fieldLink RX3 10 "SaltRow" "row" "LSaltRow$Row;") ∈ wsX3_many := by decide +kernel
theorem iX3_many_X3_3 : ∀ w ∈ wsX30, w ∈ wsX3_many := by decide +kernel
set_option maxHeartbeats 4000000 in
set_option maxRecDepth 100000 in
theorem zX3_many_3 (l : Launch) (D : va_G) (a : Nat → Nat) (cs : Nat → ClassId) (σ : sS) (fc : Nat) (hfc : fc ≤ 6) (hc : σ 0 3 = nI fc) : sMi l yX3_many wsX3_many ({ frames := 4, cells := 0, slots := 0, locals := 90 }) D a cs [.ref (a 0), .int (nI 3)] σ (f_X3_many σ fc 3) σ := by
  intro sz
  refine Met.ofW (cc := cX3_many) (maxL := 2) (ret := (some .int)) (by decide) rfl ?_
  intro p e s m args below meth c s₁ B hml hv
  obtain ⟨rfl, hsz, hv2⟩ := hv
  have hv3 : sB D a cs σ sz s := ⟨hsz, hv2⟩
  subst hsz
  have hw := sH_start hv3
  obtain ⟨-, -, hK, -, hN⟩ := hv3
  have hx := B.exec
  have hb := B.bytes
  have hr := B.returns
  have hts := atoms_spec (ws := wsX3_many) B.pre
  have hown : s.vm.findClass RX3 = some m.cls := findClass_of_methodNamed B.named
  have hlocks := B.notSynchronized
  have hA : ∀ q : Nat, s.heap.size ≤ q → sA a s.heap.size q := sA_new
  have hl := lv_entry ([.ref (a 0), .int (nI 3)]) (n := 2) (Nat.le_of_ble_eq_true rfl)
  rw [lg_entry_eq]
  generalize (lg_sl ([.ref (a 0), .int (nI 3)]) ++ List.replicate (2 - (lg_sl ([.ref (a 0), .int (nI 3)])).length) Slot.unset).toArray = ls at hl ⊢
  have hl : lv_has ls 2 [(0, .ref (a 0)), (1, .int (nI 3))] := hl
  refine lv_iload_n hx hb dX3_many_0 rfl (lv_at hl 1 rfl) ?_
  refine lv_tableIn (tgt := 109) hx hb dX3_many_1 (by decide) (by decide) (off := 108) (by decide +kernel) (by decide) ?_
  refine lv_aload_n hx hb dX3_many_109 rfl (lv_at hl 0 rfl) ?_
  refine sg_oq hx hb hts iX3_many_X3_3 hown hK hw 0 (Or.inl ⟨rfl, rfl⟩) (hts _ mX3_many_0_3) dX3_many_110 ?_
  refine sc_i (sr_V (i := 1 + 0) (As := []) (rest := []) ⟨hx, hb, hml, hown, hts⟩ (zX2_coveredPans l D a cs _ 0 (by omega) _) (cwV 0 hts gX3_many_X2_coveredPans rfl rfl rfl (by decide +kernel) ⟨Nat.le_of_ble_eq_true rfl, Nat.le_of_ble_eq_true rfl⟩) hK hN hw (by omega) (sE_r (by omega)) kcX2 rfl hl.1 (Nat.le_of_ble_eq_true rfl) dX3_many_113 ⟨Nat.le_of_ble_eq_true rfl, Nat.le_of_ble_eq_true rfl⟩) hw hA (fun H locs hw => ?_)
  exact se_i hx hb hr hlocks hw (by exact rfl) (by rfl) dX3_many_116
theorem mX3_many_0_4 : (Cond.fieldLink RX3 10 "SaltRow" "row" "LSaltRow$Row;") ∈ wsX3_many := by decide +kernel
theorem iX3_many_X3_4 : ∀ w ∈ wsX30, w ∈ wsX3_many := by decide +kernel
theorem mX3_many_2_4 : (Cond.fieldLink RX3 237 "SaltRow$Row" "seaSalt" "I") ∈ wsX3_many := by decide +kernel
theorem iX3_many_X2_4 : ∀ w ∈ wsX20, w ∈ wsX3_many := by decide +kernel
set_option maxHeartbeats 4000000 in
set_option maxRecDepth 100000 in
theorem zX3_many_4 (l : Launch) (D : va_G) (a : Nat → Nat) (cs : Nat → ClassId) (σ : sS) (fc : Nat) (hfc : fc ≤ 6) (hc : σ 0 3 = nI fc) : sMi l yX3_many wsX3_many ({ frames := 4, cells := 0, slots := 0, locals := 90 }) D a cs [.ref (a 0), .int (nI 4)] σ (f_X3_many σ fc 4) σ := by
  intro sz
  refine Met.ofW (cc := cX3_many) (maxL := 2) (ret := (some .int)) (by decide) rfl ?_
  intro p e s m args below meth c s₁ B hml hv
  obtain ⟨rfl, hsz, hv2⟩ := hv
  have hv3 : sB D a cs σ sz s := ⟨hsz, hv2⟩
  subst hsz
  have hw := sH_start hv3
  obtain ⟨-, -, hK, -, hN⟩ := hv3
  have hx := B.exec
  have hb := B.bytes
  have hr := B.returns
  have hts := atoms_spec (ws := wsX3_many) B.pre
  have hown : s.vm.findClass RX3 = some m.cls := findClass_of_methodNamed B.named
  have hlocks := B.notSynchronized
  have hA : ∀ q : Nat, s.heap.size ≤ q → sA a s.heap.size q := sA_new
  have hl := lv_entry ([.ref (a 0), .int (nI 4)]) (n := 2) (Nat.le_of_ble_eq_true rfl)
  rw [lg_entry_eq]
  generalize (lg_sl ([.ref (a 0), .int (nI 4)]) ++ List.replicate (2 - (lg_sl ([.ref (a 0), .int (nI 4)])).length) Slot.unset).toArray = ls at hl ⊢
  have hl : lv_has ls 2 [(0, .ref (a 0)), (1, .int (nI 4))] := hl
  refine lv_iload_n hx hb dX3_many_0 rfl (lv_at hl 1 rfl) ?_
  refine lv_tableIn (tgt := 117) hx hb dX3_many_1 (by decide) (by decide) (off := 116) (by decide +kernel) (by decide) ?_
  refine lv_aload_n hx hb dX3_many_117 rfl (lv_at hl 0 rfl) ?_
  refine sg_oq hx hb hts iX3_many_X3_4 hown hK hw 0 (Or.inl ⟨rfl, rfl⟩) (hts _ mX3_many_0_4) dX3_many_118 ?_
  refine sg_r (r := 0) hx hb hts iX3_many_X2_4 hown hK hw (by omega) 4 (by decide) (hts _ mX3_many_2_4) dX3_many_121 ?_
  exact se_i hx hb hr hlocks hw (by exact rfl) (by rfl) dX3_many_124
theorem mX3_many_0_5 : (Cond.fieldLink RX3 10 "SaltRow" "row" "LSaltRow$Row;") ∈ wsX3_many := by decide +kernel
theorem iX3_many_X3_5 : ∀ w ∈ wsX30, w ∈ wsX3_many := by decide +kernel
set_option maxHeartbeats 4000000 in
set_option maxRecDepth 100000 in
theorem zX3_many_5 (l : Launch) (D : va_G) (a : Nat → Nat) (cs : Nat → ClassId) (σ : sS) (fc : Nat) (hfc : fc ≤ 6) (hc : σ 0 3 = nI fc) : sMi l yX3_many wsX3_many ({ frames := 4, cells := 0, slots := 0, locals := 90 }) D a cs [.ref (a 0), .int (nI 5)] σ (f_X3_many σ fc 5) σ := by
  intro sz
  refine Met.ofW (cc := cX3_many) (maxL := 2) (ret := (some .int)) (by decide) rfl ?_
  intro p e s m args below meth c s₁ B hml hv
  obtain ⟨rfl, hsz, hv2⟩ := hv
  have hv3 : sB D a cs σ sz s := ⟨hsz, hv2⟩
  subst hsz
  have hw := sH_start hv3
  obtain ⟨-, -, hK, -, hN⟩ := hv3
  have hx := B.exec
  have hb := B.bytes
  have hr := B.returns
  have hts := atoms_spec (ws := wsX3_many) B.pre
  have hown : s.vm.findClass RX3 = some m.cls := findClass_of_methodNamed B.named
  have hlocks := B.notSynchronized
  have hA : ∀ q : Nat, s.heap.size ≤ q → sA a s.heap.size q := sA_new
  have hl := lv_entry ([.ref (a 0), .int (nI 5)]) (n := 2) (Nat.le_of_ble_eq_true rfl)
  rw [lg_entry_eq]
  generalize (lg_sl ([.ref (a 0), .int (nI 5)]) ++ List.replicate (2 - (lg_sl ([.ref (a 0), .int (nI 5)])).length) Slot.unset).toArray = ls at hl ⊢
  have hl : lv_has ls 2 [(0, .ref (a 0)), (1, .int (nI 5))] := hl
  refine lv_iload_n hx hb dX3_many_0 rfl (lv_at hl 1 rfl) ?_
  refine lv_tableIn (tgt := 125) hx hb dX3_many_1 (by decide) (by decide) (off := 124) (by decide +kernel) (by decide) ?_
  refine lv_aload_n hx hb dX3_many_125 rfl (lv_at hl 0 rfl) ?_
  refine sg_oq hx hb hts iX3_many_X3_5 hown hK hw 0 (Or.inl ⟨rfl, rfl⟩) (hts _ mX3_many_0_5) dX3_many_126 ?_
  refine lv_iconst (v := 2) hx hb dX3_many_129 (by decide) ?_
  refine sc_i (sr_V (i := 1 + 0) (As := [.int 2]) (rest := []) ⟨hx, hb, hml, hown, hts⟩ (zX2_sumOfPonds l D a cs _ 0 (by omega) 2 (by decide) _) (cwV 1 hts gX3_many_X2_sumOfPonds rfl rfl rfl (by decide +kernel) ⟨Nat.le_of_ble_eq_true rfl, Nat.le_of_ble_eq_true rfl⟩) hK hN hw (by omega) (sE_r (by omega)) kcX2 rfl hl.1 (Nat.le_of_ble_eq_true rfl) dX3_many_130 ⟨Nat.le_of_ble_eq_true rfl, Nat.le_of_ble_eq_true rfl⟩) hw hA (fun H locs hw => ?_)
  exact se_i hx hb hr hlocks hw (by exact rfl) (by rfl) dX3_many_133
theorem mX3_many_0_6 : (Cond.fieldLink RX3 10 "SaltRow" "row" "LSaltRow$Row;") ∈ wsX3_many := by decide +kernel
theorem iX3_many_X3_6 : ∀ w ∈ wsX30, w ∈ wsX3_many := by decide +kernel
set_option maxHeartbeats 4000000 in
set_option maxRecDepth 100000 in
theorem zX3_many_6 (l : Launch) (D : va_G) (a : Nat → Nat) (cs : Nat → ClassId) (σ : sS) (fc : Nat) (hfc : fc ≤ 6) (hc : σ 0 3 = nI fc) : sMi l yX3_many wsX3_many ({ frames := 4, cells := 0, slots := 0, locals := 90 }) D a cs [.ref (a 0), .int (nI 6)] σ (f_X3_many σ fc 6) σ := by
  intro sz
  refine Met.ofW (cc := cX3_many) (maxL := 2) (ret := (some .int)) (by decide) rfl ?_
  intro p e s m args below meth c s₁ B hml hv
  obtain ⟨rfl, hsz, hv2⟩ := hv
  have hv3 : sB D a cs σ sz s := ⟨hsz, hv2⟩
  subst hsz
  have hw := sH_start hv3
  obtain ⟨-, -, hK, -, hN⟩ := hv3
  have hx := B.exec
  have hb := B.bytes
  have hr := B.returns
  have hts := atoms_spec (ws := wsX3_many) B.pre
  have hown : s.vm.findClass RX3 = some m.cls := findClass_of_methodNamed B.named
  have hlocks := B.notSynchronized
  have hA : ∀ q : Nat, s.heap.size ≤ q → sA a s.heap.size q := sA_new
  have hl := lv_entry ([.ref (a 0), .int (nI 6)]) (n := 2) (Nat.le_of_ble_eq_true rfl)
  rw [lg_entry_eq]
  generalize (lg_sl ([.ref (a 0), .int (nI 6)]) ++ List.replicate (2 - (lg_sl ([.ref (a 0), .int (nI 6)])).length) Slot.unset).toArray = ls at hl ⊢
  have hl : lv_has ls 2 [(0, .ref (a 0)), (1, .int (nI 6))] := hl
  refine lv_iload_n hx hb dX3_many_0 rfl (lv_at hl 1 rfl) ?_
  refine lv_tableIn (tgt := 134) hx hb dX3_many_1 (by decide) (by decide) (off := 133) (by decide +kernel) (by decide) ?_
  refine lv_aload_n hx hb dX3_many_134 rfl (lv_at hl 0 rfl) ?_
  refine sg_oq hx hb hts iX3_many_X3_6 hown hK hw 0 (Or.inl ⟨rfl, rfl⟩) (hts _ mX3_many_0_6) dX3_many_135 ?_
  refine lv_bipush (v := 6) hx hb dX3_many_138 (by decide) ?_
  refine sc_i (sr_V (i := 1 + 0) (As := [.int 6]) (rest := []) ⟨hx, hb, hml, hown, hts⟩ (zX2_sumOfPonds l D a cs _ 0 (by omega) 6 (by decide) _) (cwV 1 hts gX3_many_X2_sumOfPonds rfl rfl rfl (by decide +kernel) ⟨Nat.le_of_ble_eq_true rfl, Nat.le_of_ble_eq_true rfl⟩) hK hN hw (by omega) (sE_r (by omega)) kcX2 rfl hl.1 (Nat.le_of_ble_eq_true rfl) dX3_many_140 ⟨Nat.le_of_ble_eq_true rfl, Nat.le_of_ble_eq_true rfl⟩) hw hA (fun H locs hw => ?_)
  exact se_i hx hb hr hlocks hw (by exact rfl) (by rfl) dX3_many_143
set_option maxHeartbeats 4000000 in
set_option maxRecDepth 100000 in
theorem zX3_many_7 (l : Launch) (D : va_G) (a : Nat → Nat) (cs : Nat → ClassId) (σ : sS) (fc : Nat) (hfc : fc ≤ 6) (hc : σ 0 3 = nI fc) : sMi l yX3_many wsX3_many ({ frames := 4, cells := 0, slots := 0, locals := 90 }) D a cs [.ref (a 0), .int (nI 7)] σ (f_X3_many σ fc 7) σ := by
  intro sz
  refine Met.ofW (cc := cX3_many) (maxL := 2) (ret := (some .int)) (by decide) rfl ?_
  intro p e s m args below meth c s₁ B hml hv
  obtain ⟨rfl, hsz, hv2⟩ := hv
  have hv3 : sB D a cs σ sz s := ⟨hsz, hv2⟩
  subst hsz
  have hw := sH_start hv3
  obtain ⟨-, -, hK, -, hN⟩ := hv3
  have hx := B.exec
  have hb := B.bytes
  have hr := B.returns
  have hts := atoms_spec (ws := wsX3_many) B.pre
  have hown : s.vm.findClass RX3 = some m.cls := findClass_of_methodNamed B.named
  have hlocks := B.notSynchronized
  have hA : ∀ q : Nat, s.heap.size ≤ q → sA a s.heap.size q := sA_new
  have hl := lv_entry ([.ref (a 0), .int (nI 7)]) (n := 2) (Nat.le_of_ble_eq_true rfl)
  rw [lg_entry_eq]
  generalize (lg_sl ([.ref (a 0), .int (nI 7)]) ++ List.replicate (2 - (lg_sl ([.ref (a 0), .int (nI 7)])).length) Slot.unset).toArray = ls at hl ⊢
  have hl : lv_has ls 2 [(0, .ref (a 0)), (1, .int (nI 7))] := hl
  refine lv_iload_n hx hb dX3_many_0 rfl (lv_at hl 1 rfl) ?_
  refine lv_tableIn (tgt := 144) hx hb dX3_many_1 (by decide) (by decide) (off := 143) (by decide +kernel) (by decide) ?_
  refine lv_aload_n hx hb dX3_many_144 rfl (lv_at hl 0 rfl) ?_
  refine lv_iconst (v := 0) hx hb dX3_many_145 (by decide) ?_
  refine sc_i (sr_V (i := 0) (As := [.int 0]) (rest := []) ⟨hx, hb, hml, hown, hts⟩ (zX3_sumOfFamilies l D a cs _ fc hfc hc 0 (by decide) _) (cwV 1 hts gX3_many_X3_sumOfFamilies rfl rfl rfl (by decide +kernel) ⟨Nat.le_of_ble_eq_true rfl, Nat.le_of_ble_eq_true rfl⟩) hK hN hw (by omega) sE_o kcX3 rfl hl.1 (Nat.le_of_ble_eq_true rfl) dX3_many_146 ⟨Nat.le_of_ble_eq_true rfl, Nat.le_of_ble_eq_true rfl⟩) hw hA (fun H locs hw => ?_)
  exact se_i hx hb hr hlocks hw (by exact rfl) (by rfl) dX3_many_149
set_option maxHeartbeats 4000000 in
set_option maxRecDepth 100000 in
theorem zX3_many_8 (l : Launch) (D : va_G) (a : Nat → Nat) (cs : Nat → ClassId) (σ : sS) (fc : Nat) (hfc : fc ≤ 6) (hc : σ 0 3 = nI fc) : sMi l yX3_many wsX3_many ({ frames := 4, cells := 0, slots := 0, locals := 90 }) D a cs [.ref (a 0), .int (nI 8)] σ (f_X3_many σ fc 8) σ := by
  intro sz
  refine Met.ofW (cc := cX3_many) (maxL := 2) (ret := (some .int)) (by decide) rfl ?_
  intro p e s m args below meth c s₁ B hml hv
  obtain ⟨rfl, hsz, hv2⟩ := hv
  have hv3 : sB D a cs σ sz s := ⟨hsz, hv2⟩
  subst hsz
  have hw := sH_start hv3
  obtain ⟨-, -, hK, -, hN⟩ := hv3
  have hx := B.exec
  have hb := B.bytes
  have hr := B.returns
  have hts := atoms_spec (ws := wsX3_many) B.pre
  have hown : s.vm.findClass RX3 = some m.cls := findClass_of_methodNamed B.named
  have hlocks := B.notSynchronized
  have hA : ∀ q : Nat, s.heap.size ≤ q → sA a s.heap.size q := sA_new
  have hl := lv_entry ([.ref (a 0), .int (nI 8)]) (n := 2) (Nat.le_of_ble_eq_true rfl)
  rw [lg_entry_eq]
  generalize (lg_sl ([.ref (a 0), .int (nI 8)]) ++ List.replicate (2 - (lg_sl ([.ref (a 0), .int (nI 8)])).length) Slot.unset).toArray = ls at hl ⊢
  have hl : lv_has ls 2 [(0, .ref (a 0)), (1, .int (nI 8))] := hl
  refine lv_iload_n hx hb dX3_many_0 rfl (lv_at hl 1 rfl) ?_
  refine lv_tableIn (tgt := 150) hx hb dX3_many_1 (by decide) (by decide) (off := 149) (by decide +kernel) (by decide) ?_
  refine lv_aload_n hx hb dX3_many_150 rfl (lv_at hl 0 rfl) ?_
  refine lv_iconst (v := 5) hx hb dX3_many_151 (by decide) ?_
  refine sc_i (sr_V (i := 0) (As := [.int 5]) (rest := []) ⟨hx, hb, hml, hown, hts⟩ (zX3_sumOfFamilies l D a cs _ fc hfc hc 5 (by decide) _) (cwV 1 hts gX3_many_X3_sumOfFamilies rfl rfl rfl (by decide +kernel) ⟨Nat.le_of_ble_eq_true rfl, Nat.le_of_ble_eq_true rfl⟩) hK hN hw (by omega) sE_o kcX3 rfl hl.1 (Nat.le_of_ble_eq_true rfl) dX3_many_152 ⟨Nat.le_of_ble_eq_true rfl, Nat.le_of_ble_eq_true rfl⟩) hw hA (fun H locs hw => ?_)
  exact se_i hx hb hr hlocks hw (by exact rfl) (by rfl) dX3_many_155
theorem mX3_many_0_9 : (Cond.fieldLink RX3 100 "SaltRow" "lostSalt" "I") ∈ wsX3_many := by decide +kernel
theorem iX3_many_X3_9 : ∀ w ∈ wsX30, w ∈ wsX3_many := by decide +kernel
set_option maxHeartbeats 4000000 in
set_option maxRecDepth 100000 in
theorem zX3_many_9 (l : Launch) (D : va_G) (a : Nat → Nat) (cs : Nat → ClassId) (σ : sS) (fc : Nat) (hfc : fc ≤ 6) (hc : σ 0 3 = nI fc) : sMi l yX3_many wsX3_many ({ frames := 4, cells := 0, slots := 0, locals := 90 }) D a cs [.ref (a 0), .int (nI 9)] σ (f_X3_many σ fc 9) σ := by
  intro sz
  refine Met.ofW (cc := cX3_many) (maxL := 2) (ret := (some .int)) (by decide) rfl ?_
  intro p e s m args below meth c s₁ B hml hv
  obtain ⟨rfl, hsz, hv2⟩ := hv
  have hv3 : sB D a cs σ sz s := ⟨hsz, hv2⟩
  subst hsz
  have hw := sH_start hv3
  obtain ⟨-, -, hK, -, hN⟩ := hv3
  have hx := B.exec
  have hb := B.bytes
  have hr := B.returns
  have hts := atoms_spec (ws := wsX3_many) B.pre
  have hown : s.vm.findClass RX3 = some m.cls := findClass_of_methodNamed B.named
  have hlocks := B.notSynchronized
  have hA : ∀ q : Nat, s.heap.size ≤ q → sA a s.heap.size q := sA_new
  have hl := lv_entry ([.ref (a 0), .int (nI 9)]) (n := 2) (Nat.le_of_ble_eq_true rfl)
  rw [lg_entry_eq]
  generalize (lg_sl ([.ref (a 0), .int (nI 9)]) ++ List.replicate (2 - (lg_sl ([.ref (a 0), .int (nI 9)])).length) Slot.unset).toArray = ls at hl ⊢
  have hl : lv_has ls 2 [(0, .ref (a 0)), (1, .int (nI 9))] := hl
  refine lv_iload_n hx hb dX3_many_0 rfl (lv_at hl 1 rfl) ?_
  refine lv_tableIn (tgt := 156) hx hb dX3_many_1 (by decide) (by decide) (off := 155) (by decide +kernel) (by decide) ?_
  refine lv_aload_n hx hb dX3_many_156 rfl (lv_at hl 0 rfl) ?_
  refine sg_o hx hb hts iX3_many_X3_9 hown hK hw 5 (by decide) (hts _ mX3_many_0_9) dX3_many_157 ?_
  exact se_i hx hb hr hlocks hw (by exact rfl) (by rfl) dX3_many_160
theorem mX3_many_0_10 : (Cond.fieldLink RX3 173 "SaltRow" "crownSalt" "I") ∈ wsX3_many := by decide +kernel
theorem iX3_many_X3_10 : ∀ w ∈ wsX30, w ∈ wsX3_many := by decide +kernel
set_option maxHeartbeats 4000000 in
set_option maxRecDepth 100000 in
theorem zX3_many_10 (l : Launch) (D : va_G) (a : Nat → Nat) (cs : Nat → ClassId) (σ : sS) (fc : Nat) (hfc : fc ≤ 6) (hc : σ 0 3 = nI fc) : sMi l yX3_many wsX3_many ({ frames := 4, cells := 0, slots := 0, locals := 90 }) D a cs [.ref (a 0), .int (nI 10)] σ (f_X3_many σ fc 10) σ := by
  intro sz
  refine Met.ofW (cc := cX3_many) (maxL := 2) (ret := (some .int)) (by decide) rfl ?_
  intro p e s m args below meth c s₁ B hml hv
  obtain ⟨rfl, hsz, hv2⟩ := hv
  have hv3 : sB D a cs σ sz s := ⟨hsz, hv2⟩
  subst hsz
  have hw := sH_start hv3
  obtain ⟨-, -, hK, -, hN⟩ := hv3
  have hx := B.exec
  have hb := B.bytes
  have hr := B.returns
  have hts := atoms_spec (ws := wsX3_many) B.pre
  have hown : s.vm.findClass RX3 = some m.cls := findClass_of_methodNamed B.named
  have hlocks := B.notSynchronized
  have hA : ∀ q : Nat, s.heap.size ≤ q → sA a s.heap.size q := sA_new
  have hl := lv_entry ([.ref (a 0), .int (nI 10)]) (n := 2) (Nat.le_of_ble_eq_true rfl)
  rw [lg_entry_eq]
  generalize (lg_sl ([.ref (a 0), .int (nI 10)]) ++ List.replicate (2 - (lg_sl ([.ref (a 0), .int (nI 10)])).length) Slot.unset).toArray = ls at hl ⊢
  have hl : lv_has ls 2 [(0, .ref (a 0)), (1, .int (nI 10))] := hl
  refine lv_iload_n hx hb dX3_many_0 rfl (lv_at hl 1 rfl) ?_
  refine lv_tableIn (tgt := 161) hx hb dX3_many_1 (by decide) (by decide) (off := 160) (by decide +kernel) (by decide) ?_
  refine lv_aload_n hx hb dX3_many_161 rfl (lv_at hl 0 rfl) ?_
  refine sg_o hx hb hts iX3_many_X3_10 hown hK hw 6 (by decide) (hts _ mX3_many_0_10) dX3_many_162 ?_
  exact se_i hx hb hr hlocks hw (by exact rfl) (by rfl) dX3_many_165
theorem mX3_many_0_11 : (Cond.fieldLink RX3 246 "SaltRow" "cloisterSalt" "I") ∈ wsX3_many := by decide +kernel
theorem iX3_many_X3_11 : ∀ w ∈ wsX30, w ∈ wsX3_many := by decide +kernel
set_option maxHeartbeats 4000000 in
set_option maxRecDepth 100000 in
theorem zX3_many_11 (l : Launch) (D : va_G) (a : Nat → Nat) (cs : Nat → ClassId) (σ : sS) (fc : Nat) (hfc : fc ≤ 6) (hc : σ 0 3 = nI fc) : sMi l yX3_many wsX3_many ({ frames := 4, cells := 0, slots := 0, locals := 90 }) D a cs [.ref (a 0), .int (nI 11)] σ (f_X3_many σ fc 11) σ := by
  intro sz
  refine Met.ofW (cc := cX3_many) (maxL := 2) (ret := (some .int)) (by decide) rfl ?_
  intro p e s m args below meth c s₁ B hml hv
  obtain ⟨rfl, hsz, hv2⟩ := hv
  have hv3 : sB D a cs σ sz s := ⟨hsz, hv2⟩
  subst hsz
  have hw := sH_start hv3
  obtain ⟨-, -, hK, -, hN⟩ := hv3
  have hx := B.exec
  have hb := B.bytes
  have hr := B.returns
  have hts := atoms_spec (ws := wsX3_many) B.pre
  have hown : s.vm.findClass RX3 = some m.cls := findClass_of_methodNamed B.named
  have hlocks := B.notSynchronized
  have hA : ∀ q : Nat, s.heap.size ≤ q → sA a s.heap.size q := sA_new
  have hl := lv_entry ([.ref (a 0), .int (nI 11)]) (n := 2) (Nat.le_of_ble_eq_true rfl)
  rw [lg_entry_eq]
  generalize (lg_sl ([.ref (a 0), .int (nI 11)]) ++ List.replicate (2 - (lg_sl ([.ref (a 0), .int (nI 11)])).length) Slot.unset).toArray = ls at hl ⊢
  have hl : lv_has ls 2 [(0, .ref (a 0)), (1, .int (nI 11))] := hl
  refine lv_iload_n hx hb dX3_many_0 rfl (lv_at hl 1 rfl) ?_
  refine lv_tableIn (tgt := 166) hx hb dX3_many_1 (by decide) (by decide) (off := 165) (by decide +kernel) (by decide) ?_
  refine lv_aload_n hx hb dX3_many_166 rfl (lv_at hl 0 rfl) ?_
  refine sg_o hx hb hts iX3_many_X3_11 hown hK hw 7 (by decide) (hts _ mX3_many_0_11) dX3_many_167 ?_
  exact se_i hx hb hr hlocks hw (by exact rfl) (by rfl) dX3_many_170
theorem mX3_many_0_12 : (Cond.fieldLink RX3 10 "SaltRow" "row" "LSaltRow$Row;") ∈ wsX3_many := by decide +kernel
theorem iX3_many_X3_12 : ∀ w ∈ wsX30, w ∈ wsX3_many := by decide +kernel
set_option maxHeartbeats 4000000 in
set_option maxRecDepth 100000 in
theorem zX3_many_12 (l : Launch) (D : va_G) (a : Nat → Nat) (cs : Nat → ClassId) (σ : sS) (fc : Nat) (hfc : fc ≤ 6) (hc : σ 0 3 = nI fc) : sMi l yX3_many wsX3_many ({ frames := 4, cells := 0, slots := 0, locals := 90 }) D a cs [.ref (a 0), .int (nI 12)] σ (f_X3_many σ fc 12) σ := by
  intro sz
  refine Met.ofW (cc := cX3_many) (maxL := 2) (ret := (some .int)) (by decide) rfl ?_
  intro p e s m args below meth c s₁ B hml hv
  obtain ⟨rfl, hsz, hv2⟩ := hv
  have hv3 : sB D a cs σ sz s := ⟨hsz, hv2⟩
  subst hsz
  have hw := sH_start hv3
  obtain ⟨-, -, hK, -, hN⟩ := hv3
  have hx := B.exec
  have hb := B.bytes
  have hr := B.returns
  have hts := atoms_spec (ws := wsX3_many) B.pre
  have hown : s.vm.findClass RX3 = some m.cls := findClass_of_methodNamed B.named
  have hlocks := B.notSynchronized
  have hA : ∀ q : Nat, s.heap.size ≤ q → sA a s.heap.size q := sA_new
  have hl := lv_entry ([.ref (a 0), .int (nI 12)]) (n := 2) (Nat.le_of_ble_eq_true rfl)
  rw [lg_entry_eq]
  generalize (lg_sl ([.ref (a 0), .int (nI 12)]) ++ List.replicate (2 - (lg_sl ([.ref (a 0), .int (nI 12)])).length) Slot.unset).toArray = ls at hl ⊢
  have hl : lv_has ls 2 [(0, .ref (a 0)), (1, .int (nI 12))] := hl
  refine lv_iload_n hx hb dX3_many_0 rfl (lv_at hl 1 rfl) ?_
  refine lv_tableIn (tgt := 171) hx hb dX3_many_1 (by decide) (by decide) (off := 170) (by decide +kernel) (by decide) ?_
  refine lv_aload_n hx hb dX3_many_171 rfl (lv_at hl 0 rfl) ?_
  refine sg_oq hx hb hts iX3_many_X3_12 hown hK hw 0 (Or.inl ⟨rfl, rfl⟩) (hts _ mX3_many_0_12) dX3_many_172 ?_
  refine lv_bipush (v := 7) hx hb dX3_many_175 (by decide) ?_
  refine sc_i (sr_V (i := 1 + 0) (As := [.int 7]) (rest := []) ⟨hx, hb, hml, hown, hts⟩ (zX2_sumOfPonds l D a cs _ 0 (by omega) 7 (by decide) _) (cwV 1 hts gX3_many_X2_sumOfPonds rfl rfl rfl (by decide +kernel) ⟨Nat.le_of_ble_eq_true rfl, Nat.le_of_ble_eq_true rfl⟩) hK hN hw (by omega) (sE_r (by omega)) kcX2 rfl hl.1 (Nat.le_of_ble_eq_true rfl) dX3_many_177 ⟨Nat.le_of_ble_eq_true rfl, Nat.le_of_ble_eq_true rfl⟩) hw hA (fun H locs hw => ?_)
  exact se_i hx hb hr hlocks hw (by exact rfl) (by rfl) dX3_many_180
theorem mX3_many_0_13 : (Cond.fieldLink RX3 249 "SaltRow" "cloisterDirt" "I") ∈ wsX3_many := by decide +kernel
theorem iX3_many_X3_13 : ∀ w ∈ wsX30, w ∈ wsX3_many := by decide +kernel
set_option maxHeartbeats 4000000 in
set_option maxRecDepth 100000 in
theorem zX3_many_13 (l : Launch) (D : va_G) (a : Nat → Nat) (cs : Nat → ClassId) (σ : sS) (fc : Nat) (hfc : fc ≤ 6) (hc : σ 0 3 = nI fc) : sMi l yX3_many wsX3_many ({ frames := 4, cells := 0, slots := 0, locals := 90 }) D a cs [.ref (a 0), .int (nI 13)] σ (f_X3_many σ fc 13) σ := by
  intro sz
  refine Met.ofW (cc := cX3_many) (maxL := 2) (ret := (some .int)) (by decide) rfl ?_
  intro p e s m args below meth c s₁ B hml hv
  obtain ⟨rfl, hsz, hv2⟩ := hv
  have hv3 : sB D a cs σ sz s := ⟨hsz, hv2⟩
  subst hsz
  have hw := sH_start hv3
  obtain ⟨-, -, hK, -, hN⟩ := hv3
  have hx := B.exec
  have hb := B.bytes
  have hr := B.returns
  have hts := atoms_spec (ws := wsX3_many) B.pre
  have hown : s.vm.findClass RX3 = some m.cls := findClass_of_methodNamed B.named
  have hlocks := B.notSynchronized
  have hA : ∀ q : Nat, s.heap.size ≤ q → sA a s.heap.size q := sA_new
  have hl := lv_entry ([.ref (a 0), .int (nI 13)]) (n := 2) (Nat.le_of_ble_eq_true rfl)
  rw [lg_entry_eq]
  generalize (lg_sl ([.ref (a 0), .int (nI 13)]) ++ List.replicate (2 - (lg_sl ([.ref (a 0), .int (nI 13)])).length) Slot.unset).toArray = ls at hl ⊢
  have hl : lv_has ls 2 [(0, .ref (a 0)), (1, .int (nI 13))] := hl
  refine lv_iload_n hx hb dX3_many_0 rfl (lv_at hl 1 rfl) ?_
  refine lv_tableIn (tgt := 181) hx hb dX3_many_1 (by decide) (by decide) (off := 180) (by decide +kernel) (by decide) ?_
  refine lv_aload_n hx hb dX3_many_181 rfl (lv_at hl 0 rfl) ?_
  refine sg_o hx hb hts iX3_many_X3_13 hown hK hw 8 (by decide) (hts _ mX3_many_0_13) dX3_many_182 ?_
  exact se_i hx hb hr hlocks hw (by exact rfl) (by rfl) dX3_many_185
theorem mX3_many_0_14 : (Cond.fieldLink RX3 10 "SaltRow" "row" "LSaltRow$Row;") ∈ wsX3_many := by decide +kernel
theorem iX3_many_X3_14 : ∀ w ∈ wsX30, w ∈ wsX3_many := by decide +kernel
set_option maxHeartbeats 4000000 in
set_option maxRecDepth 100000 in
theorem zX3_many_14 (l : Launch) (D : va_G) (a : Nat → Nat) (cs : Nat → ClassId) (σ : sS) (fc : Nat) (hfc : fc ≤ 6) (hc : σ 0 3 = nI fc) : sMi l yX3_many wsX3_many ({ frames := 4, cells := 0, slots := 0, locals := 90 }) D a cs [.ref (a 0), .int (nI 14)] σ (f_X3_many σ fc 14) σ := by
  intro sz
  refine Met.ofW (cc := cX3_many) (maxL := 2) (ret := (some .int)) (by decide) rfl ?_
  intro p e s m args below meth c s₁ B hml hv
  obtain ⟨rfl, hsz, hv2⟩ := hv
  have hv3 : sB D a cs σ sz s := ⟨hsz, hv2⟩
  subst hsz
  have hw := sH_start hv3
  obtain ⟨-, -, hK, -, hN⟩ := hv3
  have hx := B.exec
  have hb := B.bytes
  have hr := B.returns
  have hts := atoms_spec (ws := wsX3_many) B.pre
  have hown : s.vm.findClass RX3 = some m.cls := findClass_of_methodNamed B.named
  have hlocks := B.notSynchronized
  have hA : ∀ q : Nat, s.heap.size ≤ q → sA a s.heap.size q := sA_new
  have hl := lv_entry ([.ref (a 0), .int (nI 14)]) (n := 2) (Nat.le_of_ble_eq_true rfl)
  rw [lg_entry_eq]
  generalize (lg_sl ([.ref (a 0), .int (nI 14)]) ++ List.replicate (2 - (lg_sl ([.ref (a 0), .int (nI 14)])).length) Slot.unset).toArray = ls at hl ⊢
  have hl : lv_has ls 2 [(0, .ref (a 0)), (1, .int (nI 14))] := hl
  refine lv_iload_n hx hb dX3_many_0 rfl (lv_at hl 1 rfl) ?_
  refine lv_tableIn (tgt := 186) hx hb dX3_many_1 (by decide) (by decide) (off := 185) (by decide +kernel) (by decide) ?_
  refine lv_aload_n hx hb dX3_many_186 rfl (lv_at hl 0 rfl) ?_
  refine sg_oq hx hb hts iX3_many_X3_14 hown hK hw 0 (Or.inl ⟨rfl, rfl⟩) (hts _ mX3_many_0_14) dX3_many_187 ?_
  refine lv_iconst (v := 1) hx hb dX3_many_190 (by decide) ?_
  refine sc_i (sr_V (i := 1 + 0) (As := [.int 1]) (rest := []) ⟨hx, hb, hml, hown, hts⟩ (zX2_sumOfPonds l D a cs _ 0 (by omega) 1 (by decide) _) (cwV 1 hts gX3_many_X2_sumOfPonds rfl rfl rfl (by decide +kernel) ⟨Nat.le_of_ble_eq_true rfl, Nat.le_of_ble_eq_true rfl⟩) hK hN hw (by omega) (sE_r (by omega)) kcX2 rfl hl.1 (Nat.le_of_ble_eq_true rfl) dX3_many_191 ⟨Nat.le_of_ble_eq_true rfl, Nat.le_of_ble_eq_true rfl⟩) hw hA (fun H locs hw => ?_)
  exact se_i hx hb hr hlocks hw (by exact rfl) (by rfl) dX3_many_194
theorem mX3_many_0_15 : (Cond.fieldLink RX3 10 "SaltRow" "row" "LSaltRow$Row;") ∈ wsX3_many := by decide +kernel
theorem iX3_many_X3_15 : ∀ w ∈ wsX30, w ∈ wsX3_many := by decide +kernel
set_option maxHeartbeats 4000000 in
set_option maxRecDepth 100000 in
theorem zX3_many_15 (l : Launch) (D : va_G) (a : Nat → Nat) (cs : Nat → ClassId) (σ : sS) (fc : Nat) (hfc : fc ≤ 6) (hc : σ 0 3 = nI fc) : sMi l yX3_many wsX3_many ({ frames := 4, cells := 0, slots := 0, locals := 90 }) D a cs [.ref (a 0), .int (nI 15)] σ (f_X3_many σ fc 15) σ := by
  intro sz
  refine Met.ofW (cc := cX3_many) (maxL := 2) (ret := (some .int)) (by decide) rfl ?_
  intro p e s m args below meth c s₁ B hml hv
  obtain ⟨rfl, hsz, hv2⟩ := hv
  have hv3 : sB D a cs σ sz s := ⟨hsz, hv2⟩
  subst hsz
  have hw := sH_start hv3
  obtain ⟨-, -, hK, -, hN⟩ := hv3
  have hx := B.exec
  have hb := B.bytes
  have hr := B.returns
  have hts := atoms_spec (ws := wsX3_many) B.pre
  have hown : s.vm.findClass RX3 = some m.cls := findClass_of_methodNamed B.named
  have hlocks := B.notSynchronized
  have hA : ∀ q : Nat, s.heap.size ≤ q → sA a s.heap.size q := sA_new
  have hl := lv_entry ([.ref (a 0), .int (nI 15)]) (n := 2) (Nat.le_of_ble_eq_true rfl)
  rw [lg_entry_eq]
  generalize (lg_sl ([.ref (a 0), .int (nI 15)]) ++ List.replicate (2 - (lg_sl ([.ref (a 0), .int (nI 15)])).length) Slot.unset).toArray = ls at hl ⊢
  have hl : lv_has ls 2 [(0, .ref (a 0)), (1, .int (nI 15))] := hl
  refine lv_iload_n hx hb dX3_many_0 rfl (lv_at hl 1 rfl) ?_
  refine lv_tableIn (tgt := 195) hx hb dX3_many_1 (by decide) (by decide) (off := 194) (by decide +kernel) (by decide) ?_
  refine lv_aload_n hx hb dX3_many_195 rfl (lv_at hl 0 rfl) ?_
  refine sg_oq hx hb hts iX3_many_X3_15 hown hK hw 0 (Or.inl ⟨rfl, rfl⟩) (hts _ mX3_many_0_15) dX3_many_196 ?_
  refine lv_iconst (v := 5) hx hb dX3_many_199 (by decide) ?_
  refine sc_i (sr_V (i := 1 + 0) (As := [.int 5]) (rest := []) ⟨hx, hb, hml, hown, hts⟩ (zX2_sumOfPonds l D a cs _ 0 (by omega) 5 (by decide) _) (cwV 1 hts gX3_many_X2_sumOfPonds rfl rfl rfl (by decide +kernel) ⟨Nat.le_of_ble_eq_true rfl, Nat.le_of_ble_eq_true rfl⟩) hK hN hw (by omega) (sE_r (by omega)) kcX2 rfl hl.1 (Nat.le_of_ble_eq_true rfl) dX3_many_200 ⟨Nat.le_of_ble_eq_true rfl, Nat.le_of_ble_eq_true rfl⟩) hw hA (fun H locs hw => ?_)
  exact se_i hx hb hr hlocks hw (by exact rfl) (by rfl) dX3_many_203
theorem mX3_many_0_16 : (Cond.fieldLink RX3 86 "SaltRow" "skimmed" "I") ∈ wsX3_many := by decide +kernel
theorem iX3_many_X3_16 : ∀ w ∈ wsX30, w ∈ wsX3_many := by decide +kernel
set_option maxHeartbeats 4000000 in
set_option maxRecDepth 100000 in
theorem zX3_many_16 (l : Launch) (D : va_G) (a : Nat → Nat) (cs : Nat → ClassId) (σ : sS) (fc : Nat) (hfc : fc ≤ 6) (hc : σ 0 3 = nI fc) : sMi l yX3_many wsX3_many ({ frames := 4, cells := 0, slots := 0, locals := 90 }) D a cs [.ref (a 0), .int (nI 16)] σ (f_X3_many σ fc 16) σ := by
  intro sz
  refine Met.ofW (cc := cX3_many) (maxL := 2) (ret := (some .int)) (by decide) rfl ?_
  intro p e s m args below meth c s₁ B hml hv
  obtain ⟨rfl, hsz, hv2⟩ := hv
  have hv3 : sB D a cs σ sz s := ⟨hsz, hv2⟩
  subst hsz
  have hw := sH_start hv3
  obtain ⟨-, -, hK, -, hN⟩ := hv3
  have hx := B.exec
  have hb := B.bytes
  have hr := B.returns
  have hts := atoms_spec (ws := wsX3_many) B.pre
  have hown : s.vm.findClass RX3 = some m.cls := findClass_of_methodNamed B.named
  have hlocks := B.notSynchronized
  have hA : ∀ q : Nat, s.heap.size ≤ q → sA a s.heap.size q := sA_new
  have hl := lv_entry ([.ref (a 0), .int (nI 16)]) (n := 2) (Nat.le_of_ble_eq_true rfl)
  rw [lg_entry_eq]
  generalize (lg_sl ([.ref (a 0), .int (nI 16)]) ++ List.replicate (2 - (lg_sl ([.ref (a 0), .int (nI 16)])).length) Slot.unset).toArray = ls at hl ⊢
  have hl : lv_has ls 2 [(0, .ref (a 0)), (1, .int (nI 16))] := hl
  refine lv_iload_n hx hb dX3_many_0 rfl (lv_at hl 1 rfl) ?_
  refine lv_tableIn (tgt := 204) hx hb dX3_many_1 (by decide) (by decide) (off := 203) (by decide +kernel) (by decide) ?_
  refine lv_aload_n hx hb dX3_many_204 rfl (lv_at hl 0 rfl) ?_
  refine sg_o hx hb hts iX3_many_X3_16 hown hK hw 4 (by decide) (hts _ mX3_many_0_16) dX3_many_205 ?_
  exact se_i hx hb hr hlocks hw (by exact rfl) (by rfl) dX3_many_208
theorem mX3_many_0_17 : (Cond.fieldLink RX3 119 "SaltRow" "worksCoins" "I") ∈ wsX3_many := by decide +kernel
theorem iX3_many_X3_17 : ∀ w ∈ wsX30, w ∈ wsX3_many := by decide +kernel
set_option maxHeartbeats 4000000 in
set_option maxRecDepth 100000 in
theorem zX3_many_17 (l : Launch) (D : va_G) (a : Nat → Nat) (cs : Nat → ClassId) (σ : sS) (fc : Nat) (hfc : fc ≤ 6) (hc : σ 0 3 = nI fc) : sMi l yX3_many wsX3_many ({ frames := 4, cells := 0, slots := 0, locals := 90 }) D a cs [.ref (a 0), .int (nI 17)] σ (f_X3_many σ fc 17) σ := by
  intro sz
  refine Met.ofW (cc := cX3_many) (maxL := 2) (ret := (some .int)) (by decide) rfl ?_
  intro p e s m args below meth c s₁ B hml hv
  obtain ⟨rfl, hsz, hv2⟩ := hv
  have hv3 : sB D a cs σ sz s := ⟨hsz, hv2⟩
  subst hsz
  have hw := sH_start hv3
  obtain ⟨-, -, hK, -, hN⟩ := hv3
  have hx := B.exec
  have hb := B.bytes
  have hr := B.returns
  have hts := atoms_spec (ws := wsX3_many) B.pre
  have hown : s.vm.findClass RX3 = some m.cls := findClass_of_methodNamed B.named
  have hlocks := B.notSynchronized
  have hA : ∀ q : Nat, s.heap.size ≤ q → sA a s.heap.size q := sA_new
  have hl := lv_entry ([.ref (a 0), .int (nI 17)]) (n := 2) (Nat.le_of_ble_eq_true rfl)
  rw [lg_entry_eq]
  generalize (lg_sl ([.ref (a 0), .int (nI 17)]) ++ List.replicate (2 - (lg_sl ([.ref (a 0), .int (nI 17)])).length) Slot.unset).toArray = ls at hl ⊢
  have hl : lv_has ls 2 [(0, .ref (a 0)), (1, .int (nI 17))] := hl
  refine lv_iload_n hx hb dX3_many_0 rfl (lv_at hl 1 rfl) ?_
  refine lv_tableIn (tgt := 209) hx hb dX3_many_1 (by decide) (by decide) (off := 208) (by decide +kernel) (by decide) ?_
  refine lv_aload_n hx hb dX3_many_209 rfl (lv_at hl 0 rfl) ?_
  refine sg_o hx hb hts iX3_many_X3_17 hown hK hw 9 (by decide) (hts _ mX3_many_0_17) dX3_many_210 ?_
  exact se_i hx hb hr hlocks hw (by exact rfl) (by rfl) dX3_many_213
theorem zX3_many (l : Launch) (D : va_G) (a : Nat → Nat) (cs : Nat → ClassId) (σ : sS) (fc : Nat) (hfc : fc ≤ 6) (hc : σ 0 3 = nI fc) (k : Nat) (hk : k < 18) : sMi l yX3_many wsX3_many ({ frames := 4, cells := 0, slots := 0, locals := 90 }) D a cs [.ref (a 0), .int (nI k)] σ (f_X3_many σ fc k) σ := by
  rcases (show k = 0 ∨ k = 1 ∨ k = 2 ∨ k = 3 ∨ k = 4 ∨ k = 5 ∨ k = 6 ∨ k = 7 ∨ k = 8 ∨ k = 9 ∨ k = 10 ∨ k = 11 ∨ k = 12 ∨ k = 13 ∨ k = 14 ∨ k = 15 ∨ k = 16 ∨ k = 17 by omega) with rfl | rfl | rfl | rfl | rfl | rfl | rfl | rfl | rfl | rfl | rfl | rfl | rfl | rfl | rfl | rfl | rfl | rfl
  · exact zX3_many_0 l D a cs σ fc hfc hc
  · exact zX3_many_1 l D a cs σ fc hfc hc
  · exact zX3_many_2 l D a cs σ fc hfc hc
  · exact zX3_many_3 l D a cs σ fc hfc hc
  · exact zX3_many_4 l D a cs σ fc hfc hc
  · exact zX3_many_5 l D a cs σ fc hfc hc
  · exact zX3_many_6 l D a cs σ fc hfc hc
  · exact zX3_many_7 l D a cs σ fc hfc hc
  · exact zX3_many_8 l D a cs σ fc hfc hc
  · exact zX3_many_9 l D a cs σ fc hfc hc
  · exact zX3_many_10 l D a cs σ fc hfc hc
  · exact zX3_many_11 l D a cs σ fc hfc hc
  · exact zX3_many_12 l D a cs σ fc hfc hc
  · exact zX3_many_13 l D a cs σ fc hfc hc
  · exact zX3_many_14 l D a cs σ fc hfc hc
  · exact zX3_many_15 l D a cs σ fc hfc hc
  · exact zX3_many_16 l D a cs σ fc hfc hc
  · exact zX3_many_17 l D a cs σ fc hfc hc
theorem mX3_saltInPansWith_0 : (Cond.fieldLink RX3 16 "SaltRow" "trial" "LSaltRow$Row;") ∈ wsX3_saltInPansWith := by decide +kernel
theorem iX3_saltInPansWith_X3 : ∀ w ∈ wsX30, w ∈ wsX3_saltInPansWith := by decide +kernel
theorem mX3_saltInPansWith_2 : (Cond.fieldLink RX3 10 "SaltRow" "row" "LSaltRow$Row;") ∈ wsX3_saltInPansWith := by decide +kernel
set_option maxHeartbeats 4000000 in
set_option maxRecDepth 100000 in
theorem zX3_saltInPansWith (l : Launch) (D : va_G) (a : Nat → Nat) (cs : Nat → ClassId) (σ : sS) (hz : sZ σ) (g d : Nat) (x y : Int32) (hd : d < 2 ^ 31) : sMi l yX3_saltInPansWith wsX3_saltInPansWith ({ frames := 4, cells := 0, slots := 0, locals := 99 }) D a cs [.ref (a 0), .int (nI g), .int (nI d), .int x, .int y] σ (f_X3_withV σ g d x y) (f_X3_withS σ g d x y) := by
  intro sz
  refine Met.ofW (cc := cX3_saltInPansWith) (maxL := 6) (ret := (some .int)) (by decide) rfl ?_
  intro p e s m args below meth c s₁ B hml hv
  obtain ⟨rfl, hsz, hv2⟩ := hv
  have hv3 : sB D a cs σ sz s := ⟨hsz, hv2⟩
  subst hsz
  have hw := sH_start hv3
  obtain ⟨-, -, hK, -, hN⟩ := hv3
  have hx := B.exec
  have hb := B.bytes
  have hr := B.returns
  have hts := atoms_spec (ws := wsX3_saltInPansWith) B.pre
  have hown : s.vm.findClass RX3 = some m.cls := findClass_of_methodNamed B.named
  have hlocks := B.notSynchronized
  have hA : ∀ q : Nat, s.heap.size ≤ q → sA a s.heap.size q := sA_new
  have hl := lv_entry ([.ref (a 0), .int (nI g), .int (nI d), .int x, .int y]) (n := 6) (Nat.le_of_ble_eq_true rfl)
  rw [lg_entry_eq]
  generalize (lg_sl ([.ref (a 0), .int (nI g), .int (nI d), .int x, .int y]) ++ List.replicate (6 - (lg_sl ([.ref (a 0), .int (nI g), .int (nI d), .int x, .int y])).length) Slot.unset).toArray = ls at hl ⊢
  have hl : lv_has ls 6 [(0, .ref (a 0)), (1, .int (nI g)), (2, .int (nI d)), (3, .int x), (4, .int y)] := hl
  refine lv_aload_n hx hb dX3_saltInPansWith_0 rfl (lv_at hl 0 rfl) ?_
  refine sg_oq hx hb hts iX3_saltInPansWith_X3 hown hK hw 1 (Or.inr (Or.inl ⟨rfl, rfl⟩)) (hts _ mX3_saltInPansWith_0) dX3_saltInPansWith_1 ?_
  refine lv_aload_n hx hb dX3_saltInPansWith_4 rfl (lv_at hl 0 rfl) ?_
  refine sg_oq hx hb hts iX3_saltInPansWith_X3 hown hK hw 0 (Or.inl ⟨rfl, rfl⟩) (hts _ mX3_saltInPansWith_2) dX3_saltInPansWith_5 ?_
  refine sc_v (sr_V (i := 1 + 1) (As := [.ref (a 1)]) (rest := []) ⟨hx, hb, hml, hown, hts⟩ (zX2_copyFrom l D a cs _ hz _) (cwV 1 hts gX3_saltInPansWith_X2_copyFrom rfl rfl rfl (by decide +kernel) ⟨Nat.le_of_ble_eq_true rfl, Nat.le_of_ble_eq_true rfl⟩) hK hN hw (by omega) (sE_r (by omega)) kcX2 rfl hl.1 (Nat.le_of_ble_eq_true rfl) dX3_saltInPansWith_8 ⟨Nat.le_of_ble_eq_true rfl, Nat.le_of_ble_eq_true rfl⟩) hw hA (fun H locs hw => ?_)
  obtain ⟨τ1, eτ1⟩ : ∃ zz : sS, f_X2_copyFrom σ = zz := ⟨_, rfl⟩
  rw [eτ1] at hw
  refine lv_aload_n hx hb dX3_saltInPansWith_11 rfl (lv_at hl 0 rfl) ?_
  refine sg_oq hx hb hts iX3_saltInPansWith_X3 hown hK hw 1 (Or.inr (Or.inl ⟨rfl, rfl⟩)) (hts _ mX3_saltInPansWith_0) dX3_saltInPansWith_12 ?_
  refine lv_iload_n hx hb dX3_saltInPansWith_15 rfl (lv_at hl 1 rfl) ?_
  refine sc_v (sr_V (i := 1 + 1) (As := [.int (nI g)]) (rest := []) ⟨hx, hb, hml, hown, hts⟩ (zX2_setGates l D a cs _ 1 (by omega) (nI g) _) (cwV 1 hts gX3_saltInPansWith_X2_setGates rfl rfl rfl (by decide +kernel) ⟨Nat.le_of_ble_eq_true rfl, Nat.le_of_ble_eq_true rfl⟩) hK hN hw (by omega) (sE_r (by omega)) kcX2 rfl hl.1 (Nat.le_of_ble_eq_true rfl) dX3_saltInPansWith_16 ⟨Nat.le_of_ble_eq_true rfl, Nat.le_of_ble_eq_true rfl⟩) hw hA (fun H locs hw => ?_)
  obtain ⟨τ2, eτ2⟩ : ∃ zz : sS, f_X2_setGates τ1 1 (nI g) = zz := ⟨_, rfl⟩
  rw [eτ2] at hw
  refine lv_iconst (v := 0) hx hb dX3_saltInPansWith_19 (by decide) ?_
  refine lv_istore (lv' := [(5, .int 0), (0, .ref (a 0)), (1, .int (nI g)), (2, .int (nI d)), (3, .int x), (4, .int y)]) hx hb dX3_saltInPansWith_20 hl (by decide) rfl (fun ls hl => ?_)
  have loop : ∀ (Q : State → Prop) (n : Nat) (k : Nat) (τ : sS)  (H : Heap) (locs : List Loc) (ls : Array Slot), k + n = d → sH D a cs (sA a s.heap.size) s.heap τ H locs → lv_has ls 6 [(0, .ref (a 0)), (2, .int (nI d)), (3, .int x), (4, .int y), (5, .int (nI k))] → (∀ (H : Heap) (locs : List Loc) (ls : Array Slot), sH D a cs (sA a s.heap.size) s.heap (f_X3_days 1 x y 0 n τ) H locs → lv_has ls 6 [(0, .ref (a 0))] → W p l e { frames := 4, cells := 0, slots := 0, locals := 99 } s m #[Value.ref (a 0), Value.int (nI g), Value.int (nI d), Value.int x, Value.int y] below meth c H locs 0 0 Q (F0 m 45 ls [])) → W p l e { frames := 4, cells := 0, slots := 0, locals := 99 } s m #[Value.ref (a 0), Value.int (nI g), Value.int (nI d), Value.int x, Value.int y] below meth c H locs 0 0 Q (F0 m 22 ls []) := by
    intro Q n
    induction n with
    | zero =>
      intro k τ  H locs ls hkn hw hl kont
      refine lv_iload hx hb dX3_saltInPansWith_22 (lv_at hl 4 rfl) ?_
      refine lv_iload_n hx hb dX3_saltInPansWith_24 rfl (lv_at hl 1 rfl) ?_
      refine lv_icmp_ge (tgt := 45) hx hb dX3_saltInPansWith_25 (by decide) (fun c3 => ?_) (fun c3 => absurd (by rw [show k = d by omega]; exact Int32.le_refl _) c3)
      exact kont H locs ls hw (lv_sub hl [0] rfl)
    | succ n ih =>
      intro k τ  H locs ls hkn hw hl kont
      refine lv_iload hx hb dX3_saltInPansWith_22 (lv_at hl 4 rfl) ?_
      refine lv_iload_n hx hb dX3_saltInPansWith_24 rfl (lv_at hl 1 rfl) ?_
      refine lv_icmp_ge (tgt := 45) hx hb dX3_saltInPansWith_25 (by decide) (fun c4 => absurd c4 (nI_ge (by omega) (by omega))) (fun c4 => ?_)
      refine lv_aload_n hx hb dX3_saltInPansWith_28 rfl (lv_at hl 0 rfl) ?_
      refine sg_oq hx hb hts iX3_saltInPansWith_X3 hown hK hw 1 (Or.inr (Or.inl ⟨rfl, rfl⟩)) (hts _ mX3_saltInPansWith_0) dX3_saltInPansWith_29 ?_
      refine lv_iload_n hx hb dX3_saltInPansWith_32 rfl (lv_at hl 2 rfl) ?_
      refine lv_iload hx hb dX3_saltInPansWith_33 (lv_at hl 3 rfl) ?_
      refine lv_iconst (v := 0) hx hb dX3_saltInPansWith_35 (by decide) ?_
      refine sc_v (sr_V (i := 1 + 1) (As := [.int x, .int y, .int 0]) (rest := []) ⟨hx, hb, hml, hown, hts⟩ (zX2_letDayGoBy l D a cs _ 1 (by omega) x y 0 _) (cwV 3 hts gX3_saltInPansWith_X2_letDayGoBy rfl rfl rfl (by decide +kernel) ⟨Nat.le_of_ble_eq_true rfl, Nat.le_of_ble_eq_true rfl⟩) hK hN hw (by omega) (sE_r (by omega)) kcX2 rfl hl.1 (Nat.le_of_ble_eq_true rfl) dX3_saltInPansWith_36 ⟨Nat.le_of_ble_eq_true rfl, Nat.le_of_ble_eq_true rfl⟩) hw hA (fun H locs hw => ?_)
      obtain ⟨τ5, eτ5⟩ : ∃ zz : sS, f_X2_letDayGoBy τ 1 x y 0 = zz := ⟨_, rfl⟩
      rw [eτ5] at hw
      refine lv_iinc (v := nI (k + 1)) (lv' := [(5, .int (nI (k + 1))), (0, .ref (a 0)), (2, .int (nI d)), (3, .int x), (4, .int y)]) hx hb dX3_saltInPansWith_39 hl (k := 4) rfl (nI_1 k) (by decide) rfl (fun ls hl => ?_)
      refine lv_goto (tgt := 22) hx hb dX3_saltInPansWith_42 (by decide) ?_
      have hstep : f_X3_days 1 x y 0 (n + 1) τ = f_X3_days 1 x y 0 n τ5 := by
        subst eτ5; rfl
      exact ih (k + 1) τ5  H locs ls (by omega) hw (lv_sub hl [1, 2, 3, 4, 0] rfl) (fun H locs ls hw hl => kont H locs ls (by rw [hstep]; exact hw) (by exact hl))
  refine loop _ d 0 τ2  _ _ _ (Nat.zero_add d) hw (lv_sub hl [1, 3, 4, 5, 0] rfl) (fun H locs ls hw hl => ?_)
  obtain ⟨τ6, eτ6⟩ : ∃ zz : sS, f_X3_days 1 x y 0 d τ2 = zz := ⟨_, rfl⟩
  rw [eτ6] at hw
  refine lv_aload_n hx hb dX3_saltInPansWith_45 rfl (lv_at hl 0 rfl) ?_
  refine sg_oq hx hb hts iX3_saltInPansWith_X3 hown hK hw 1 (Or.inr (Or.inl ⟨rfl, rfl⟩)) (hts _ mX3_saltInPansWith_0) dX3_saltInPansWith_46 ?_
  refine sc_i (sr_V (i := 1 + 1) (As := []) (rest := []) ⟨hx, hb, hml, hown, hts⟩ (zX2_saltInPans l D a cs _ 1 (by omega) _) (cwV 0 hts gX3_saltInPansWith_X2_saltInPans rfl rfl rfl (by decide +kernel) ⟨Nat.le_of_ble_eq_true rfl, Nat.le_of_ble_eq_true rfl⟩) hK hN hw (by omega) (sE_r (by omega)) kcX2 rfl hl.1 (Nat.le_of_ble_eq_true rfl) dX3_saltInPansWith_49 ⟨Nat.le_of_ble_eq_true rfl, Nat.le_of_ble_eq_true rfl⟩) hw hA (fun H locs hw => ?_)
  exact se_i hx hb hr hlocks hw (by subst eτ6 eτ2 eτ1; exact rfl) (by subst eτ6 eτ2 eτ1; exact rfl) dX3_saltInPansWith_52
set_option maxHeartbeats 4000000 in
set_option maxRecDepth 100000 in
theorem zX3_bestGates (l : Launch) (D : va_G) (a : Nat → Nat) (cs : Nat → ClassId) (σ : sS) (hz : sZ σ) (d : Nat) (hd : 1 ≤ d ∧ d ≤ 9) (x y : Int32) (hx0 : ¬ x < 0) (hx9 : x ≤ 9) (hy0 : ¬ y < 0) (hy9 : y ≤ 9) : sMi l yX3_bestGates wsX3_bestGates ({ frames := 5, cells := 0, slots := 0, locals := 124 }) D a cs [.ref (a 0), .int (nI d), .int x, .int y] σ (f_X3_bestGates σ d x y) (f_X3_bestS d x y 256 0 σ) := by
  intro sz
  refine Met.ofW (cc := cX3_bestGates) (maxL := 8) (ret := (some .int)) (by decide) rfl ?_
  intro p e s m args below meth c s₁ B hml hv
  obtain ⟨rfl, hsz, hv2⟩ := hv
  have hv3 : sB D a cs σ sz s := ⟨hsz, hv2⟩
  subst hsz
  have hw := sH_start hv3
  obtain ⟨-, -, hK, -, hN⟩ := hv3
  have hx := B.exec
  have hb := B.bytes
  have hr := B.returns
  have hts := atoms_spec (ws := wsX3_bestGates) B.pre
  have hown : s.vm.findClass RX3 = some m.cls := findClass_of_methodNamed B.named
  have hlocks := B.notSynchronized
  have hA : ∀ q : Nat, s.heap.size ≤ q → sA a s.heap.size q := sA_new
  have hl := lv_entry ([.ref (a 0), .int (nI d), .int x, .int y]) (n := 8) (Nat.le_of_ble_eq_true rfl)
  rw [lg_entry_eq]
  generalize (lg_sl ([.ref (a 0), .int (nI d), .int x, .int y]) ++ List.replicate (8 - (lg_sl ([.ref (a 0), .int (nI d), .int x, .int y])).length) Slot.unset).toArray = ls at hl ⊢
  have hl : lv_has ls 8 [(0, .ref (a 0)), (1, .int (nI d)), (2, .int x), (3, .int y)] := hl
  refine lv_iload_n hx hb dX3_bestGates_0 rfl (lv_at hl 1 rfl) ?_
  refine lv_iconst (v := 1) hx hb dX3_bestGates_1 (by decide) ?_
  refine lv_icmp_lt (tgt := 11) hx hb dX3_bestGates_2 (by decide) (fun c1 => absurd c1 (nI_nlt (a := d) (b := 1) (by omega) (by omega))) (fun c1 => ?_)
  refine lv_iload_n hx hb dX3_bestGates_5 rfl (lv_at hl 1 rfl) ?_
  refine lv_bipush (v := 9) hx hb dX3_bestGates_6 (by decide) ?_
  refine lv_icmp_le (tgt := 22) hx hb dX3_bestGates_8 (by decide) (fun c2 => ?_) (fun c2 => absurd (nI_le (a := d) (b := 9) (by omega) (by decide)) c2)
  refine lv_aload_n hx hb dX3_bestGates_22 rfl (lv_at hl 0 rfl) ?_
  refine lv_iload_n hx hb dX3_bestGates_23 rfl (lv_at hl 2 rfl) ?_
  refine lv_iload_n hx hb dX3_bestGates_24 rfl (lv_at hl 3 rfl) ?_
  refine sc_v (sr_V (i := 0) (As := [.int x, .int y]) (rest := []) ⟨hx, hb, hml, hown, hts⟩ (zX3_needWeather l D a cs _ x y hx0 hx9 hy0 hy9 _) (cwV 2 hts gX3_bestGates_X3_needWeather rfl rfl rfl (by decide +kernel) ⟨Nat.le_of_ble_eq_true rfl, Nat.le_of_ble_eq_true rfl⟩) hK hN hw (by omega) sE_o kcX3 rfl hl.1 (Nat.le_of_ble_eq_true rfl) dX3_bestGates_25 ⟨Nat.le_of_ble_eq_true rfl, Nat.le_of_ble_eq_true rfl⟩) hw hA (fun H locs hw => ?_)
  refine lv_iconst (v := 0) hx hb dX3_bestGates_28 (by decide) ?_
  refine lv_istore (lv' := [(4, .int 0), (0, .ref (a 0)), (1, .int (nI d)), (2, .int x), (3, .int y)]) hx hb dX3_bestGates_29 hl (by decide) rfl (fun ls hl => ?_)
  refine lv_iconst (v := -1) hx hb dX3_bestGates_31 (by decide) ?_
  refine lv_istore (lv' := [(5, .int (-1)), (4, .int 0), (0, .ref (a 0)), (1, .int (nI d)), (2, .int x), (3, .int y)]) hx hb dX3_bestGates_32 hl (by decide) rfl (fun ls hl => ?_)
  refine lv_iconst (v := 0) hx hb dX3_bestGates_34 (by decide) ?_
  refine lv_istore (lv' := [(6, .int 0), (5, .int (-1)), (4, .int 0), (0, .ref (a 0)), (1, .int (nI d)), (2, .int x), (3, .int y)]) hx hb dX3_bestGates_35 hl (by decide) rfl (fun ls hl => ?_)
  have loop : ∀ (Q : State → Prop) (n : Nat) (k : Nat) (τ : sS) (v : Int32) (u : Int32) (H : Heap) (locs : List Loc) (ls : Array Slot), k + n = 256 ∧ sZ τ → sH D a cs (sA a s.heap.size) s.heap τ H locs → lv_has ls 8 [(0, .ref (a 0)), (1, .int (nI d)), (2, .int x), (3, .int y), (4, .int v), (5, .int u), (6, .int (nI k))] → (∀ (H : Heap) (locs : List Loc) (ls : Array Slot), sH D a cs (sA a s.heap.size) s.heap (f_X3_bestS d x y n k τ) H locs → lv_has ls 8 [(4, .int (f_X3_bestB d x y n k τ v u))] → W p l e { frames := 5, cells := 0, slots := 0, locals := 124 } s m #[Value.ref (a 0), Value.int (nI d), Value.int x, Value.int y] below meth c H locs 0 0 Q (F0 m 77 ls [])) → W p l e { frames := 5, cells := 0, slots := 0, locals := 124 } s m #[Value.ref (a 0), Value.int (nI d), Value.int x, Value.int y] below meth c H locs 0 0 Q (F0 m 37 ls []) := by
    intro Q n
    induction n with
    | zero =>
      intro k τ v u H locs ls hkn hw hl kont
      refine lv_iload hx hb dX3_bestGates_37 (lv_at hl 6 rfl) ?_
      refine lv_sipush (v := 256) hx hb dX3_bestGates_39 (by decide) ?_
      refine lv_icmp_ge (tgt := 77) hx hb dX3_bestGates_42 (by decide) (fun c3 => ?_) (fun c3 => absurd (by rw [show k = 256 by omega]; decide) c3)
      exact kont H locs ls hw (lv_sub hl [4] rfl)
    | succ n ih =>
      intro k τ v u H locs ls hkn hw hl kont
      refine lv_iload hx hb dX3_bestGates_37 (lv_at hl 6 rfl) ?_
      refine lv_sipush (v := 256) hx hb dX3_bestGates_39 (by decide) ?_
      refine lv_icmp_ge (tgt := 77) hx hb dX3_bestGates_42 (by decide) (fun c4 => absurd c4 (nI_ge (a := k) (b := 256) (by omega) (by decide))) (fun c4 => ?_)
      refine lv_aload_n hx hb dX3_bestGates_45 rfl (lv_at hl 0 rfl) ?_
      refine lv_iload hx hb dX3_bestGates_46 (lv_at hl 6 rfl) ?_
      refine lv_iload_n hx hb dX3_bestGates_48 rfl (lv_at hl 1 rfl) ?_
      refine lv_iload_n hx hb dX3_bestGates_49 rfl (lv_at hl 2 rfl) ?_
      refine lv_iload_n hx hb dX3_bestGates_50 rfl (lv_at hl 3 rfl) ?_
      refine sc_i (sr_V (i := 0) (As := [.int (nI k), .int (nI d), .int x, .int y]) (rest := []) ⟨hx, hb, hml, hown, hts⟩ (zX3_saltInPansWith l D a cs _ hkn.2 k d x y (by omega) _) (cwV 4 hts gX3_bestGates_X3_saltInPansWith rfl rfl rfl (by decide +kernel) ⟨Nat.le_of_ble_eq_true rfl, Nat.le_of_ble_eq_true rfl⟩) hK hN hw (by omega) sE_o kcX3 rfl hl.1 (Nat.le_of_ble_eq_true rfl) dX3_bestGates_51 ⟨Nat.le_of_ble_eq_true rfl, Nat.le_of_ble_eq_true rfl⟩) hw hA (fun H locs hw => ?_)
      obtain ⟨τ5, eτ5⟩ : ∃ zz : sS, f_X3_withS τ k d x y = zz := ⟨_, rfl⟩
      rw [eτ5] at hw
      refine lv_istore (lv' := [(7, .int (f_X3_withV τ k d x y)), (0, .ref (a 0)), (1, .int (nI d)), (2, .int x), (3, .int y), (4, .int v), (5, .int u), (6, .int (nI k))]) hx hb dX3_bestGates_54 hl (by decide) rfl (fun ls hl => ?_)
      refine lv_iload hx hb dX3_bestGates_56 (lv_at hl 0 rfl) ?_
      refine lv_iload hx hb dX3_bestGates_58 (lv_at hl 6 rfl) ?_
      refine lv_icmp_le (tgt := 71) hx hb dX3_bestGates_60 (by decide) (fun c6 => ?_) (fun c6 => ?_)
      · refine lv_iinc (v := nI (k + 1)) (lv' := [(6, .int (nI (k + 1))), (7, .int (f_X3_withV τ k d x y)), (0, .ref (a 0)), (1, .int (nI d)), (2, .int x), (3, .int y), (4, .int v), (5, .int u)]) hx hb dX3_bestGates_71 hl (k := 7) rfl (nI_1 k) (by decide) rfl (fun ls hl => ?_)
        refine lv_goto (tgt := 37) hx hb dX3_bestGates_74 (by decide) ?_
        have hstep : f_X3_bestS d x y (n + 1) k τ = f_X3_bestS d x y n (k + 1) τ5 := by
          subst eτ5; rfl
        have hval0 : f_X3_bestB d x y (n + 1) k τ v u = f_X3_bestB d x y n (k + 1) τ5 v u := by
          subst eτ5; simp only [f_X3_bestB, if_pos c6]
        have hval1 : f_X3_bestM d x y (n + 1) k τ u = f_X3_bestM d x y n (k + 1) τ5 u := by
          subst eτ5; simp only [f_X3_bestM, if_pos c6]
        exact ih (k + 1) τ5 v u H locs ls ⟨by omega, by subst eτ5; exact sZ_of hkn.2 (fun i hi => k_with hi)⟩ hw (lv_sub hl [2, 3, 4, 5, 6, 7, 0] rfl) (fun H locs ls hw hl => kont H locs ls (by rw [hstep]; exact hw) (by rw [hval0]; exact hl))
      · refine lv_iload hx hb dX3_bestGates_63 (lv_at hl 0 rfl) ?_
        refine lv_istore (lv' := [(5, .int (f_X3_withV τ k d x y)), (7, .int (f_X3_withV τ k d x y)), (0, .ref (a 0)), (1, .int (nI d)), (2, .int x), (3, .int y), (4, .int v), (6, .int (nI k))]) hx hb dX3_bestGates_65 hl (by decide) rfl (fun ls hl => ?_)
        refine lv_iload hx hb dX3_bestGates_67 (lv_at hl 7 rfl) ?_
        refine lv_istore (lv' := [(4, .int (nI k)), (5, .int (f_X3_withV τ k d x y)), (7, .int (f_X3_withV τ k d x y)), (0, .ref (a 0)), (1, .int (nI d)), (2, .int x), (3, .int y), (6, .int (nI k))]) hx hb dX3_bestGates_69 hl (by decide) rfl (fun ls hl => ?_)
        refine lv_iinc (v := nI (k + 1)) (lv' := [(6, .int (nI (k + 1))), (4, .int (nI k)), (5, .int (f_X3_withV τ k d x y)), (7, .int (f_X3_withV τ k d x y)), (0, .ref (a 0)), (1, .int (nI d)), (2, .int x), (3, .int y)]) hx hb dX3_bestGates_71 hl (k := 7) rfl (nI_1 k) (by decide) rfl (fun ls hl => ?_)
        refine lv_goto (tgt := 37) hx hb dX3_bestGates_74 (by decide) ?_
        have hstep : f_X3_bestS d x y (n + 1) k τ = f_X3_bestS d x y n (k + 1) τ5 := by
          subst eτ5; rfl
        have hval0 : f_X3_bestB d x y (n + 1) k τ v u = f_X3_bestB d x y n (k + 1) τ5 (nI k) (f_X3_withV τ k d x y) := by
          subst eτ5; simp only [f_X3_bestB, if_neg c6]
        have hval1 : f_X3_bestM d x y (n + 1) k τ u = f_X3_bestM d x y n (k + 1) τ5 (f_X3_withV τ k d x y) := by
          subst eτ5; simp only [f_X3_bestM, if_neg c6]
        exact ih (k + 1) τ5 (nI k) (f_X3_withV τ k d x y) H locs ls ⟨by omega, by subst eτ5; exact sZ_of hkn.2 (fun i hi => k_with hi)⟩ hw (lv_sub hl [4, 5, 6, 7, 1, 2, 0] rfl) (fun H locs ls hw hl => kont H locs ls (by rw [hstep]; exact hw) (by rw [hval0]; exact hl))
  refine loop _ 256 0 σ 0 (-1) _ _ _ ⟨by decide, hz⟩ hw (lv_sub hl [3, 4, 5, 6, 2, 1, 0] rfl) (fun H locs ls hw hl => ?_)
  obtain ⟨τ7, eτ7⟩ : ∃ zz : sS, f_X3_bestS d x y 256 0 σ = zz := ⟨_, rfl⟩
  rw [eτ7] at hw
  refine lv_iload hx hb dX3_bestGates_77 (lv_at hl 0 rfl) ?_
  exact se_i hx hb hr hlocks hw (by subst eτ7; exact rfl) (by subst eτ7; exact rfl) dX3_bestGates_79
theorem mX3_crustIn_0 : (Cond.fieldLink RX3 16 "SaltRow" "trial" "LSaltRow$Row;") ∈ wsX3_crustIn := by decide +kernel
theorem iX3_crustIn_X3 : ∀ w ∈ wsX30, w ∈ wsX3_crustIn := by decide +kernel
theorem mX3_crustIn_2 : (Cond.fieldLink RX3 10 "SaltRow" "row" "LSaltRow$Row;") ∈ wsX3_crustIn := by decide +kernel
theorem mX3_crustIn_3 : (Cond.fieldLink RX3 46 "SaltRow$Row" "ponds" "[LSaltRow$Pond;") ∈ wsX3_crustIn := by decide +kernel
theorem iX3_crustIn_X2 : ∀ w ∈ wsX20, w ∈ wsX3_crustIn := by decide +kernel
theorem mX3_crustIn_5 : (Cond.fieldLink RX3 258 "SaltRow$Pond" "saltFallen" "I") ∈ wsX3_crustIn := by decide +kernel
theorem iX3_crustIn_X1 : ∀ w ∈ wsX10, w ∈ wsX3_crustIn := by decide +kernel
set_option maxHeartbeats 4000000 in
set_option maxRecDepth 100000 in
theorem zX3_crustIn (l : Launch) (D : va_G) (a : Nat → Nat) (cs : Nat → ClassId) (σ : sS) (hz : sZ σ) (q : Nat) (hq : q < 3) (x y : Int32) (hx0 : ¬ x < 0) (hx9 : x ≤ 9) (hy0 : ¬ y < 0) (hy9 : y ≤ 9) : sMi l yX3_crustIn wsX3_crustIn ({ frames := 4, cells := 0, slots := 0, locals := 99 }) D a cs [.ref (a 0), .int (nI (5 + q)), .int x, .int y] σ (f_X3_crustInV σ q x y) (f_X3_crustIn σ q x y) := by
  intro sz
  refine Met.ofW (cc := cX3_crustIn) (maxL := 5) (ret := (some .int)) (by decide) rfl ?_
  intro p e s m args below meth c s₁ B hml hv
  obtain ⟨rfl, hsz, hv2⟩ := hv
  have hv3 : sB D a cs σ sz s := ⟨hsz, hv2⟩
  subst hsz
  have hw := sH_start hv3
  obtain ⟨-, -, hK, -, hN⟩ := hv3
  have hx := B.exec
  have hb := B.bytes
  have hr := B.returns
  have hts := atoms_spec (ws := wsX3_crustIn) B.pre
  have hown : s.vm.findClass RX3 = some m.cls := findClass_of_methodNamed B.named
  have hlocks := B.notSynchronized
  have hA : ∀ q : Nat, s.heap.size ≤ q → sA a s.heap.size q := sA_new
  have hl := lv_entry ([.ref (a 0), .int (nI (5 + q)), .int x, .int y]) (n := 5) (Nat.le_of_ble_eq_true rfl)
  rw [lg_entry_eq]
  generalize (lg_sl ([.ref (a 0), .int (nI (5 + q)), .int x, .int y]) ++ List.replicate (5 - (lg_sl ([.ref (a 0), .int (nI (5 + q)), .int x, .int y])).length) Slot.unset).toArray = ls at hl ⊢
  have hl : lv_has ls 5 [(0, .ref (a 0)), (1, .int (nI (5 + q))), (2, .int x), (3, .int y)] := hl
  refine lv_aload_n hx hb dX3_crustIn_0 rfl (lv_at hl 0 rfl) ?_
  refine lv_iload_n hx hb dX3_crustIn_1 rfl (lv_at hl 1 rfl) ?_
  refine sc_v (sr_V (i := 0) (As := [.int (nI (5 + q))]) (rest := []) ⟨hx, hb, hml, hown, hts⟩ (zX3_needPan l D a cs _ q (by omega) _) (cwV 1 hts gX3_crustIn_X3_needPan rfl rfl rfl (by decide +kernel) ⟨Nat.le_of_ble_eq_true rfl, Nat.le_of_ble_eq_true rfl⟩) hK hN hw (by omega) sE_o kcX3 rfl hl.1 (Nat.le_of_ble_eq_true rfl) dX3_crustIn_2 ⟨Nat.le_of_ble_eq_true rfl, Nat.le_of_ble_eq_true rfl⟩) hw hA (fun H locs hw => ?_)
  refine lv_aload_n hx hb dX3_crustIn_5 rfl (lv_at hl 0 rfl) ?_
  refine lv_iload_n hx hb dX3_crustIn_6 rfl (lv_at hl 2 rfl) ?_
  refine lv_iload_n hx hb dX3_crustIn_7 rfl (lv_at hl 3 rfl) ?_
  refine sc_v (sr_V (i := 0) (As := [.int x, .int y]) (rest := []) ⟨hx, hb, hml, hown, hts⟩ (zX3_needWeather l D a cs _ x y hx0 hx9 hy0 hy9 _) (cwV 2 hts gX3_crustIn_X3_needWeather rfl rfl rfl (by decide +kernel) ⟨Nat.le_of_ble_eq_true rfl, Nat.le_of_ble_eq_true rfl⟩) hK hN hw (by omega) sE_o kcX3 rfl hl.1 (Nat.le_of_ble_eq_true rfl) dX3_crustIn_8 ⟨Nat.le_of_ble_eq_true rfl, Nat.le_of_ble_eq_true rfl⟩) hw hA (fun H locs hw => ?_)
  refine lv_aload_n hx hb dX3_crustIn_11 rfl (lv_at hl 0 rfl) ?_
  refine sg_oq hx hb hts iX3_crustIn_X3 hown hK hw 1 (Or.inr (Or.inl ⟨rfl, rfl⟩)) (hts _ mX3_crustIn_0) dX3_crustIn_12 ?_
  refine lv_aload_n hx hb dX3_crustIn_15 rfl (lv_at hl 0 rfl) ?_
  refine sg_oq hx hb hts iX3_crustIn_X3 hown hK hw 0 (Or.inl ⟨rfl, rfl⟩) (hts _ mX3_crustIn_2) dX3_crustIn_16 ?_
  refine sc_v (sr_V (i := 1 + 1) (As := [.ref (a 1)]) (rest := []) ⟨hx, hb, hml, hown, hts⟩ (zX2_copyFrom l D a cs _ hz _) (cwV 1 hts gX3_crustIn_X2_copyFrom rfl rfl rfl (by decide +kernel) ⟨Nat.le_of_ble_eq_true rfl, Nat.le_of_ble_eq_true rfl⟩) hK hN hw (by omega) (sE_r (by omega)) kcX2 rfl hl.1 (Nat.le_of_ble_eq_true rfl) dX3_crustIn_19 ⟨Nat.le_of_ble_eq_true rfl, Nat.le_of_ble_eq_true rfl⟩) hw hA (fun H locs hw => ?_)
  obtain ⟨τ1, eτ1⟩ : ∃ zz : sS, f_X2_copyFrom σ = zz := ⟨_, rfl⟩
  rw [eτ1] at hw
  refine lv_iconst (v := 1) hx hb dX3_crustIn_22 (by decide) ?_
  refine lv_istore (lv' := [(4, .int 1), (0, .ref (a 0)), (1, .int (nI (5 + q))), (2, .int x), (3, .int y)]) hx hb dX3_crustIn_23 hl (by decide) rfl (fun ls hl => ?_)
  have loop : ∀ (n : Nat) (k : Nat) (τ : sS)  (H : Heap) (locs : List Loc) (ls : Array Slot), k + n = 61 → sH D a cs (sA a s.heap.size) s.heap τ H locs → lv_has ls 5 [(0, .ref (a 0)), (1, .int (nI (5 + q))), (2, .int x), (3, .int y), (4, .int (nI k))] → ∀ (V' : Int32) (S' : sS), f_X3_crustV q x y n k τ = V' → f_X3_crustS q x y n k τ = S' → W p l e { frames := 4, cells := 0, slots := 0, locals := 99 } s m #[Value.ref (a 0), Value.int (nI (5 + q)), Value.int x, Value.int y] below meth c H locs 0 0 (MQ below (va_Qi (fun r (_ : Unit) => r = V') (fun _ t => va_P D vwCl (sW a cs S') t.heap) (sA a s.heap.size)) #[Value.ref (a 0), Value.int (nI (5 + q)), Value.int x, Value.int y] s 0 0 (sA a s.heap.size)) (F0 m 25 ls []) := by
    intro n
    induction n with
    | zero =>
      intro k τ  H locs ls hkn hw hl V' S' hV hS
      refine lv_iload hx hb dX3_crustIn_25 (lv_at hl 4 rfl) ?_
      refine lv_bipush (v := 60) hx hb dX3_crustIn_27 (by decide) ?_
      refine lv_icmp_gt (tgt := 66) hx hb dX3_crustIn_29 (by decide) (fun c2 => ?_) (fun c2 => absurd (by rw [show k = 61 by omega]; decide) c2)
      refine lv_iconst (v := -1) hx hb dX3_crustIn_66 (by decide) ?_
      exact se_i hx hb hr hlocks hw (by exact hV) (by exact hS) dX3_crustIn_67
    | succ n ih =>
      intro k τ  H locs ls hkn hw hl V' S' hV hS
      refine lv_iload hx hb dX3_crustIn_25 (lv_at hl 4 rfl) ?_
      refine lv_bipush (v := 60) hx hb dX3_crustIn_27 (by decide) ?_
      refine lv_icmp_gt (tgt := 66) hx hb dX3_crustIn_29 (by decide) (fun c3 => absurd c3 (nI_nlt (a := 60) (b := k) (by omega) (by decide))) (fun c3 => ?_)
      refine lv_aload_n hx hb dX3_crustIn_32 rfl (lv_at hl 0 rfl) ?_
      refine sg_oq hx hb hts iX3_crustIn_X3 hown hK hw 1 (Or.inr (Or.inl ⟨rfl, rfl⟩)) (hts _ mX3_crustIn_0) dX3_crustIn_33 ?_
      refine lv_iload_n hx hb dX3_crustIn_36 rfl (lv_at hl 2 rfl) ?_
      refine lv_iload_n hx hb dX3_crustIn_37 rfl (lv_at hl 3 rfl) ?_
      refine lv_iconst (v := 0) hx hb dX3_crustIn_38 (by decide) ?_
      refine sc_v (sr_V (i := 1 + 1) (As := [.int x, .int y, .int 0]) (rest := []) ⟨hx, hb, hml, hown, hts⟩ (zX2_letDayGoBy l D a cs _ 1 (by omega) x y 0 _) (cwV 3 hts gX3_crustIn_X2_letDayGoBy rfl rfl rfl (by decide +kernel) ⟨Nat.le_of_ble_eq_true rfl, Nat.le_of_ble_eq_true rfl⟩) hK hN hw (by omega) (sE_r (by omega)) kcX2 rfl hl.1 (Nat.le_of_ble_eq_true rfl) dX3_crustIn_39 ⟨Nat.le_of_ble_eq_true rfl, Nat.le_of_ble_eq_true rfl⟩) hw hA (fun H locs hw => ?_)
      obtain ⟨τ4, eτ4⟩ : ∃ zz : sS, f_X2_letDayGoBy τ 1 x y 0 = zz := ⟨_, rfl⟩
      rw [eτ4] at hw
      refine lv_aload_n hx hb dX3_crustIn_42 rfl (lv_at hl 0 rfl) ?_
      refine sg_oq hx hb hts iX3_crustIn_X3 hown hK hw 1 (Or.inr (Or.inl ⟨rfl, rfl⟩)) (hts _ mX3_crustIn_0) dX3_crustIn_43 ?_
      refine sg_rq (r := 1) hx hb hts iX3_crustIn_X2 hown hK hw (by omega) (hts _ mX3_crustIn_3) dX3_crustIn_46 ?_
      refine lv_iload_n hx hb dX3_crustIn_49 rfl (lv_at hl 1 rfl) ?_
      refine sg_q (r := 1) (k := (5 + q)) hx hb hK hw (by omega) (by omega) rfl dX3_crustIn_50 ?_
      refine sg_p hx hb hts iX3_crustIn_X1 hown hK hw (by omega) 8 (by decide) (hts _ mX3_crustIn_5) dX3_crustIn_51 ?_
      refine lv_if_le (tgt := 60) hx hb dX3_crustIn_54 (by decide) (fun c5 => ?_) (fun c5 => ?_)
      · refine lv_iinc (v := nI (k + 1)) (lv' := [(4, .int (nI (k + 1))), (0, .ref (a 0)), (1, .int (nI (5 + q))), (2, .int x), (3, .int y)]) hx hb dX3_crustIn_60 hl (k := 4) rfl (nI_1 k) (by decide) rfl (fun ls hl => ?_)
        refine lv_goto (tgt := 25) hx hb dX3_crustIn_63 (by decide) ?_
        have hstep : f_X3_crustS q x y (n + 1) k τ = f_X3_crustS q x y n (k + 1) τ4 := by
          subst eτ4; simp only [f_X3_crustS, if_pos c5]
        have hstepv : f_X3_crustV q x y (n + 1) k τ = f_X3_crustV q x y n (k + 1) τ4 := by
          subst eτ4; simp only [f_X3_crustV, if_pos c5]
        exact ih (k + 1) τ4  H locs ls (by omega) hw (lv_sub hl [1, 2, 3, 4, 0] rfl) V' S' (by rw [← hstepv]; exact hV) (by rw [← hstep]; exact hS)
      · refine lv_iload hx hb dX3_crustIn_57 (lv_at hl 4 rfl) ?_
        have hq1 : f_X3_crustV q x y (n + 1) k τ = nI k := by
          subst eτ4; simp only [f_X3_crustV, if_neg c5]
        have hq2 : f_X3_crustS q x y (n + 1) k τ = τ4 := by
          subst eτ4; simp only [f_X3_crustS, if_neg c5]
        exact se_i hx hb hr hlocks hw (by rw [← hq1]; exact hV) (by rw [← hq2]; exact hS) dX3_crustIn_59
  subst eτ1; exact loop 60 1 _  _ _ _ (by decide) hw (lv_sub hl [1, 2, 3, 4, 0] rfl) _ _ rfl rfl
theorem mX3_tideOn_0 : (Cond.fieldLink RX3 10 "SaltRow" "row" "LSaltRow$Row;") ∈ wsX3_tideOn := by decide +kernel
theorem iX3_tideOn_X3 : ∀ w ∈ wsX30, w ∈ wsX3_tideOn := by decide +kernel
theorem mX3_tideOn_2 : (Cond.fieldLink RX3 37 "SaltRow$Row" "day" "I") ∈ wsX3_tideOn := by decide +kernel
theorem iX3_tideOn_X2 : ∀ w ∈ wsX20, w ∈ wsX3_tideOn := by decide +kernel
set_option maxHeartbeats 4000000 in
set_option maxRecDepth 100000 in
theorem zX3_tideOn (l : Launch) (D : va_G) (a : Nat → Nat) (cs : Nat → ClassId) (σ : sS) (x h : Int32) (hx0 : ¬ x < 0) (hx20 : x ≤ 20) : sMi l yX3_tideOn wsX3_tideOn ({ frames := 2, cells := 0, slots := 0, locals := 45 }) D a cs [.ref (a 0), .int x, .int h] σ (f_X3_tideOn σ x h) σ := by
  intro sz
  refine Met.ofW (cc := cX3_tideOn) (maxL := 5) (ret := (some .int)) (by decide) rfl ?_
  intro p e s m args below meth c s₁ B hml hv
  obtain ⟨rfl, hsz, hv2⟩ := hv
  have hv3 : sB D a cs σ sz s := ⟨hsz, hv2⟩
  subst hsz
  have hw := sH_start hv3
  obtain ⟨-, -, hK, -, hN⟩ := hv3
  have hx := B.exec
  have hb := B.bytes
  have hr := B.returns
  have hts := atoms_spec (ws := wsX3_tideOn) B.pre
  have hown : s.vm.findClass RX3 = some m.cls := findClass_of_methodNamed B.named
  have hlocks := B.notSynchronized
  have hA : ∀ q : Nat, s.heap.size ≤ q → sA a s.heap.size q := sA_new
  have hl := lv_entry ([.ref (a 0), .int x, .int h]) (n := 5) (Nat.le_of_ble_eq_true rfl)
  rw [lg_entry_eq]
  generalize (lg_sl ([.ref (a 0), .int x, .int h]) ++ List.replicate (5 - (lg_sl ([.ref (a 0), .int x, .int h])).length) Slot.unset).toArray = ls at hl ⊢
  have hl : lv_has ls 5 [(0, .ref (a 0)), (1, .int x), (2, .int h)] := hl
  refine lv_iload_n hx hb dX3_tideOn_0 rfl (lv_at hl 1 rfl) ?_
  refine lv_if_lt (tgt := 10) hx hb dX3_tideOn_1 (by decide) (fun c1 => absurd c1 hx0) (fun c1 => ?_)
  refine lv_iload_n hx hb dX3_tideOn_4 rfl (lv_at hl 1 rfl) ?_
  refine lv_bipush (v := 20) hx hb dX3_tideOn_5 (by decide) ?_
  refine lv_icmp_le (tgt := 21) hx hb dX3_tideOn_7 (by decide) (fun c2 => ?_) (fun c2 => absurd hx20 c2)
  refine lv_iconst (v := 0) hx hb dX3_tideOn_21 (by decide) ?_
  refine lv_istore_n (lv' := [(3, .int 0), (0, .ref (a 0)), (1, .int x), (2, .int h)]) hx hb dX3_tideOn_22 rfl hl (by decide) rfl (fun ls hl => ?_)
  have loop : ∀ (n : Nat) (k : Nat) (τ : sS)  (H : Heap) (locs : List Loc) (ls : Array Slot), k + n = 14 → sH D a cs (sA a s.heap.size) s.heap τ H locs → lv_has ls 5 [(0, .ref (a 0)), (1, .int x), (2, .int h), (3, .int (nI k))] → ∀ (V' : Int32) (S' : sS), f_X3_tideV x h n k τ = V' → τ = S' → W p l e { frames := 2, cells := 0, slots := 0, locals := 45 } s m #[Value.ref (a 0), Value.int x, Value.int h] below meth c H locs 0 0 (MQ below (va_Qi (fun r (_ : Unit) => r = V') (fun _ t => va_P D vwCl (sW a cs S') t.heap) (sA a s.heap.size)) #[Value.ref (a 0), Value.int x, Value.int h] s 0 0 (sA a s.heap.size)) (F0 m 23 ls []) := by
    intro n
    induction n with
    | zero =>
      intro k τ  H locs ls hkn hw hl V' S' hV hS
      refine lv_iload_n hx hb dX3_tideOn_23 rfl (lv_at hl 3 rfl) ?_
      refine lv_bipush (v := 14) hx hb dX3_tideOn_24 (by decide) ?_
      refine lv_icmp_ge (tgt := 78) hx hb dX3_tideOn_26 (by decide) (fun c3 => ?_) (fun c3 => absurd (by rw [show k = 14 by omega]; decide) c3)
      refine lv_iconst (v := -1) hx hb dX3_tideOn_78 (by decide) ?_
      exact se_i hx hb hr hlocks hw (by exact hV) (by exact hS) dX3_tideOn_79
    | succ n ih =>
      intro k τ  H locs ls hkn hw hl V' S' hV hS
      refine lv_iload_n hx hb dX3_tideOn_23 rfl (lv_at hl 3 rfl) ?_
      refine lv_bipush (v := 14) hx hb dX3_tideOn_24 (by decide) ?_
      refine lv_icmp_ge (tgt := 78) hx hb dX3_tideOn_26 (by decide) (fun c4 => absurd c4 (nI_ge (a := k) (b := 14) (by omega) (by decide))) (fun c4 => ?_)
      refine lv_aload_n hx hb dX3_tideOn_29 rfl (lv_at hl 0 rfl) ?_
      refine sg_oq hx hb hts iX3_tideOn_X3 hown hK hw 0 (Or.inl ⟨rfl, rfl⟩) (hts _ mX3_tideOn_0) dX3_tideOn_30 ?_
      refine sg_r (r := 0) hx hb hts iX3_tideOn_X2 hown hK hw (by omega) 1 (by decide) (hts _ mX3_tideOn_2) dX3_tideOn_33 ?_
      refine lv_iload_n hx hb dX3_tideOn_36 rfl (lv_at hl 3 rfl) ?_
      refine lv_iadd hx hb dX3_tideOn_37 ?_
      refine sc_i (sr_S (As := [.int ((τ (1 + 0) 1) + (nI k))]) (rest := []) ⟨hx, hb, hml, hown, hts⟩ (zX3_tideAt l D a cs _ ((τ (1 + 0) 1) + (nI k)) _) (va_cwS 1 hts gX3_tideOn_X3_tideAt rfl rfl rfl (by decide +kernel) ⟨Nat.le_of_ble_eq_true rfl, Nat.le_of_ble_eq_true rfl⟩) hK hN hw rfl hl.1 (Nat.le_of_ble_eq_true rfl) dX3_tideOn_38 ⟨Nat.le_of_ble_eq_true rfl, Nat.le_of_ble_eq_true rfl⟩) hw hA (fun H locs hw => ?_)
      refine lv_istore (lv' := [(4, .int (f_X3_tideAt ((τ (1 + 0) 1) + (nI k)))), (0, .ref (a 0)), (1, .int x), (2, .int h), (3, .int (nI k))]) hx hb dX3_tideOn_41 hl (by decide) rfl (fun ls hl => ?_)
      refine lv_iload_n hx hb dX3_tideOn_43 rfl (lv_at hl 3 rfl) ?_
      refine lv_if_eq (tgt := 56) hx hb dX3_tideOn_44 (by decide) (fun c5 => ?_) (fun c5 => ?_)
      · refine lv_iload hx hb dX3_tideOn_56 (lv_at hl 0 rfl) ?_
        refine lv_iload_n hx hb dX3_tideOn_58 rfl (lv_at hl 2 rfl) ?_
        refine lv_icmp_gt (tgt := 72) hx hb dX3_tideOn_59 (by decide) (fun c6 => ?_) (fun c6 => ?_)
        · refine lv_iinc (v := nI (k + 1)) (lv' := [(3, .int (nI (k + 1))), (4, .int (f_X3_tideAt ((τ (1 + 0) 1) + (nI k)))), (0, .ref (a 0)), (1, .int x), (2, .int h)]) hx hb dX3_tideOn_72 hl (k := 4) rfl (nI_1 k) (by decide) rfl (fun ls hl => ?_)
          refine lv_goto (tgt := 23) hx hb dX3_tideOn_75 (by decide) ?_
          have hstep : τ = τ := by
            rfl
          have hstepv : f_X3_tideV x h (n + 1) k τ = f_X3_tideV x h n (k + 1) τ := by
            simp only [f_X3_tideV, if_pos c5, if_pos c6]
          exact ih (k + 1) τ  H locs ls (by omega) hw (lv_sub hl [2, 3, 4, 0] rfl) V' S' (by rw [← hstepv]; exact hV) (by rw [← hstep]; exact hS)
        · refine lv_aload_n hx hb dX3_tideOn_62 rfl (lv_at hl 1 rfl) ?_
          refine sg_oq hx hb hts iX3_tideOn_X3 hown hK hw 0 (Or.inl ⟨rfl, rfl⟩) (hts _ mX3_tideOn_0) dX3_tideOn_63 ?_
          refine sg_r (r := 0) hx hb hts iX3_tideOn_X2 hown hK hw (by omega) 1 (by decide) (hts _ mX3_tideOn_2) dX3_tideOn_66 ?_
          refine lv_iload_n hx hb dX3_tideOn_69 rfl (lv_at hl 4 rfl) ?_
          refine lv_iadd hx hb dX3_tideOn_70 ?_
          have hq1 : f_X3_tideV x h (n + 1) k τ = (τ (1 + 0) 1) + (nI k) := by
            simp only [f_X3_tideV, if_pos c5, if_neg c6]
          have hq2 : τ = τ := by
            rfl
          exact se_i hx hb hr hlocks hw (by rw [← hq1]; exact hV) (by rw [← hq2]; exact hS) dX3_tideOn_71
      · refine lv_iload hx hb dX3_tideOn_47 (lv_at hl 0 rfl) ?_
        refine lv_iload_n hx hb dX3_tideOn_49 rfl (lv_at hl 2 rfl) ?_
        refine lv_icmp_lt (tgt := 72) hx hb dX3_tideOn_50 (by decide) (fun c7 => ?_) (fun c7 => ?_)
        · refine lv_iinc (v := nI (k + 1)) (lv' := [(3, .int (nI (k + 1))), (4, .int (f_X3_tideAt ((τ (1 + 0) 1) + (nI k)))), (0, .ref (a 0)), (1, .int x), (2, .int h)]) hx hb dX3_tideOn_72 hl (k := 4) rfl (nI_1 k) (by decide) rfl (fun ls hl => ?_)
          refine lv_goto (tgt := 23) hx hb dX3_tideOn_75 (by decide) ?_
          have hstep : τ = τ := by
            rfl
          have hstepv : f_X3_tideV x h (n + 1) k τ = f_X3_tideV x h n (k + 1) τ := by
            simp only [f_X3_tideV, if_neg c5, if_pos c7]
          exact ih (k + 1) τ  H locs ls (by omega) hw (lv_sub hl [2, 3, 4, 0] rfl) V' S' (by rw [← hstepv]; exact hV) (by rw [← hstep]; exact hS)
        · refine lv_goto (tgt := 62) hx hb dX3_tideOn_53 (by decide) ?_
          refine lv_aload_n hx hb dX3_tideOn_62 rfl (lv_at hl 1 rfl) ?_
          refine sg_oq hx hb hts iX3_tideOn_X3 hown hK hw 0 (Or.inl ⟨rfl, rfl⟩) (hts _ mX3_tideOn_0) dX3_tideOn_63 ?_
          refine sg_r (r := 0) hx hb hts iX3_tideOn_X2 hown hK hw (by omega) 1 (by decide) (hts _ mX3_tideOn_2) dX3_tideOn_66 ?_
          refine lv_iload_n hx hb dX3_tideOn_69 rfl (lv_at hl 4 rfl) ?_
          refine lv_iadd hx hb dX3_tideOn_70 ?_
          have hq1 : f_X3_tideV x h (n + 1) k τ = (τ (1 + 0) 1) + (nI k) := by
            simp only [f_X3_tideV, if_neg c5, if_neg c7]
          have hq2 : τ = τ := by
            rfl
          exact se_i hx hb hr hlocks hw (by rw [← hq1]; exact hV) (by rw [← hq2]; exact hS) dX3_tideOn_71
  exact loop 14 0 σ  _ _ _ (by decide) hw (lv_sub hl [1, 2, 3, 0] rfl) _ _ rfl rfl
end
section
theorem mX3_digestOfFamily_0 : (Cond.constantLong RX3 273 (31)) ∈ wsX3_digestOfFamily := by decide +kernel
set_option maxHeartbeats 4000000 in
set_option maxRecDepth 100000 in
theorem zX3_digestOfFamily (l : Launch) (D : va_G) (a : Nat → Nat) (cs : Nat → ClassId) (σ : sS) (fc : Nat) (hfc : fc ≤ 6) (hc : σ 0 3 = nI fc) (j : Nat) (hj : j < fc) (d0 : Int64) : sMl l yX3_digestOfFamily wsX3_digestOfFamily ({ frames := 4, cells := 0, slots := 0, locals := 89 }) D a cs [.ref (a 0), .int (nI j), .long d0] σ (f_X3_digestOfFamily σ j d0) σ := by
  intro sz
  refine Met.ofW (cc := cX3_digestOfFamily) (maxL := 7) (ret := (some .long)) (by decide) rfl ?_
  intro p e s m args below meth c s₁ B hml hv
  obtain ⟨rfl, hsz, hv2⟩ := hv
  have hv3 : sB D a cs σ sz s := ⟨hsz, hv2⟩
  subst hsz
  have hw := sH_start hv3
  obtain ⟨-, -, hK, -, hN⟩ := hv3
  have hx := B.exec
  have hb := B.bytes
  have hr := B.returns
  have hts := atoms_spec (ws := wsX3_digestOfFamily) B.pre
  have hown : s.vm.findClass RX3 = some m.cls := findClass_of_methodNamed B.named
  have hlocks := B.notSynchronized
  have hA : ∀ q : Nat, s.heap.size ≤ q → sA a s.heap.size q := sA_new
  have hl := lv_entry ([.ref (a 0), .int (nI j), .long d0]) (n := 7) (Nat.le_of_ble_eq_true rfl)
  rw [lg_entry_eq]
  generalize (lg_sl ([.ref (a 0), .int (nI j), .long d0]) ++ List.replicate (7 - (lg_sl ([.ref (a 0), .int (nI j), .long d0])).length) Slot.unset).toArray = ls at hl ⊢
  have hl : lv_has ls 7 [(0, .ref (a 0)), (1, .int (nI j)), (2, .long d0)] := hl
  refine lv_lload_n hx hb dX3_digestOfFamily_0 rfl (lv_at hl 2 rfl) ?_
  refine lv_lstore (lv' := [(4, .long d0), (0, .ref (a 0)), (1, .int (nI j)), (2, .long d0)]) hx hb dX3_digestOfFamily_1 hl (by decide) rfl (fun ls hl => ?_)
  refine lv_iconst (v := 0) hx hb dX3_digestOfFamily_3 (by decide) ?_
  refine lv_istore (lv' := [(6, .int 0), (4, .long d0), (0, .ref (a 0)), (1, .int (nI j)), (2, .long d0)]) hx hb dX3_digestOfFamily_4 hl (by decide) rfl (fun ls hl => ?_)
  have loop : ∀ (Q : State → Prop) (n : Nat) (k : Nat) (τ : sS) (v : Int64) (H : Heap) (locs : List Loc) (ls : Array Slot), k + n = 6 ∧ τ 0 3 = nI fc → sH D a cs (sA a s.heap.size) s.heap τ H locs → lv_has ls 7 [(0, .ref (a 0)), (1, .int (nI j)), (4, .long v), (6, .int (nI k))] → (∀ (H : Heap) (locs : List Loc) (ls : Array Slot), sH D a cs (sA a s.heap.size) s.heap (τ) H locs → lv_has ls 7 [(0, .ref (a 0)), (1, .int (nI j)), (4, .long (f_dgA τ j n k v))] → W p l e { frames := 4, cells := 0, slots := 0, locals := 89 } s m #[Value.ref (a 0), Value.int (nI j), Value.long d0] below meth c H locs 0 0 Q (F0 m 35 ls [])) → W p l e { frames := 4, cells := 0, slots := 0, locals := 89 } s m #[Value.ref (a 0), Value.int (nI j), Value.long d0] below meth c H locs 0 0 Q (F0 m 6 ls []) := by
    intro Q n
    induction n with
    | zero =>
      intro k τ v H locs ls hkn hw hl kont
      refine lv_iload hx hb dX3_digestOfFamily_6 (lv_at hl 3 rfl) ?_
      refine lv_iconst (v := 5) hx hb dX3_digestOfFamily_8 (by decide) ?_
      refine lv_icmp_gt (tgt := 35) hx hb dX3_digestOfFamily_9 (by decide) (fun c1 => ?_) (fun c1 => absurd (by rw [show k = 6 by omega]; decide) c1)
      exact kont H locs ls hw (lv_sub hl [0, 1, 2] rfl)
    | succ n ih =>
      intro k τ v H locs ls hkn hw hl kont
      refine lv_iload hx hb dX3_digestOfFamily_6 (lv_at hl 3 rfl) ?_
      refine lv_iconst (v := 5) hx hb dX3_digestOfFamily_8 (by decide) ?_
      refine lv_icmp_gt (tgt := 35) hx hb dX3_digestOfFamily_9 (by decide) (fun c2 => absurd c2 (nI_nlt (a := 5) (b := k) (by omega) (by decide))) (fun c2 => ?_)
      refine lv_lload hx hb dX3_digestOfFamily_12 (lv_at hl 2 rfl) ?_
      refine lv_ldc2 (v := 31) hx hb hown (hts _ mX3_digestOfFamily_0) dX3_digestOfFamily_14 ?_
      refine lv_lmul hx hb dX3_digestOfFamily_17 ?_
      refine lv_aload_n hx hb dX3_digestOfFamily_18 rfl (lv_at hl 0 rfl) ?_
      refine lv_iload_n hx hb dX3_digestOfFamily_19 rfl (lv_at hl 1 rfl) ?_
      refine lv_iload hx hb dX3_digestOfFamily_20 (lv_at hl 3 rfl) ?_
      refine sc_i (sr_V (i := 0) (As := [.int (nI j), .int (nI k)]) (rest := [.long (v * 31)]) ⟨hx, hb, hml, hown, hts⟩ (zX3_ofFamily l D a cs _ fc hfc hkn.2 j hj k (by omega) _) (cwV 2 hts gX3_digestOfFamily_X3_ofFamily rfl rfl rfl (by decide +kernel) ⟨Nat.le_of_ble_eq_true rfl, Nat.le_of_ble_eq_true rfl⟩) hK hN hw (by omega) sE_o kcX3 rfl hl.1 (Nat.le_of_ble_eq_true rfl) dX3_digestOfFamily_22 ⟨Nat.le_of_ble_eq_true rfl, Nat.le_of_ble_eq_true rfl⟩) hw hA (fun H locs hw => ?_)
      refine lv_i2l hx hb dX3_digestOfFamily_25 rfl ?_
      refine lv_ladd hx hb dX3_digestOfFamily_26 ?_
      refine lv_lstore (lv' := [(4, .long ((v * 31) + ((f_X0_read (τ (22 + j)) k).toInt64))), (0, .ref (a 0)), (1, .int (nI j)), (6, .int (nI k))]) hx hb dX3_digestOfFamily_27 hl (by decide) rfl (fun ls hl => ?_)
      refine lv_iinc (v := nI (k + 1)) (lv' := [(6, .int (nI (k + 1))), (4, .long ((v * 31) + ((f_X0_read (τ (22 + j)) k).toInt64))), (0, .ref (a 0)), (1, .int (nI j))]) hx hb dX3_digestOfFamily_29 hl (k := 3) rfl (nI_1 k) (by decide) rfl (fun ls hl => ?_)
      refine lv_goto (tgt := 6) hx hb dX3_digestOfFamily_32 (by decide) ?_
      have hstep : τ = τ := by
        rfl
      have hval0 : f_dgA τ j (n + 1) k v = f_dgA τ j n (k + 1) ((v * 31) + ((f_X0_read (τ (22 + j)) k).toInt64)) := by
        rfl
      exact ih (k + 1) τ ((v * 31) + ((f_X0_read (τ (22 + j)) k).toInt64)) H locs ls ⟨by omega, hkn.2⟩ hw (lv_sub hl [2, 3, 1, 0] rfl) (fun H locs ls hw hl => kont H locs ls (by rw [hstep]; exact hw) (by rw [hval0]; exact hl))
  refine loop _ 6 0 σ d0 _ _ _ ⟨by decide, hc⟩ hw (lv_sub hl [2, 3, 1, 0] rfl) (fun H locs ls hw hl => ?_)
  obtain ⟨τ3, eτ3⟩ : ∃ zz : sS, σ = zz := ⟨_, rfl⟩
  rw [eτ3] at hw
  refine lv_iconst (v := 5) hx hb dX3_digestOfFamily_35 (by decide) ?_
  refine lv_istore (lv' := [(6, .int 5), (0, .ref (a 0)), (1, .int (nI j)), (4, .long (f_dgA σ j 6 0 d0))]) hx hb dX3_digestOfFamily_36 hl (by decide) rfl (fun ls hl => ?_)
  have loop2 : ∀ (Q : State → Prop) (n : Nat) (k : Nat) (τ : sS) (v : Int64) (H : Heap) (locs : List Loc) (ls : Array Slot), k + n = 3 ∧ τ 0 3 = nI fc → sH D a cs (sA a s.heap.size) s.heap τ H locs → lv_has ls 7 [(0, .ref (a 0)), (1, .int (nI j)), (4, .long v), (6, .int (nI (5 + k)))] → (∀ (H : Heap) (locs : List Loc) (ls : Array Slot), sH D a cs (sA a s.heap.size) s.heap (τ) H locs → lv_has ls 7 [(4, .long (f_dgB τ j n k v))] → W p l e { frames := 4, cells := 0, slots := 0, locals := 89 } s m #[Value.ref (a 0), Value.int (nI j), Value.long d0] below meth c H locs 0 0 Q (F0 m 68 ls [])) → W p l e { frames := 4, cells := 0, slots := 0, locals := 89 } s m #[Value.ref (a 0), Value.int (nI j), Value.long d0] below meth c H locs 0 0 Q (F0 m 38 ls []) := by
    intro Q n
    induction n with
    | zero =>
      intro k τ v H locs ls hkn hw hl kont
      refine lv_iload hx hb dX3_digestOfFamily_38 (lv_at hl 3 rfl) ?_
      refine lv_bipush (v := 8) hx hb dX3_digestOfFamily_40 (by decide) ?_
      refine lv_icmp_ge (tgt := 68) hx hb dX3_digestOfFamily_42 (by decide) (fun c4 => ?_) (fun c4 => absurd (by rw [show k = 3 by omega]; decide) c4)
      exact kont H locs ls hw (lv_sub hl [2] rfl)
    | succ n ih =>
      intro k τ v H locs ls hkn hw hl kont
      refine lv_iload hx hb dX3_digestOfFamily_38 (lv_at hl 3 rfl) ?_
      refine lv_bipush (v := 8) hx hb dX3_digestOfFamily_40 (by decide) ?_
      refine lv_icmp_ge (tgt := 68) hx hb dX3_digestOfFamily_42 (by decide) (fun c5 => absurd c5 (nI_ge (a := 5 + k) (b := 8) (by omega) (by decide))) (fun c5 => ?_)
      refine lv_lload hx hb dX3_digestOfFamily_45 (lv_at hl 2 rfl) ?_
      refine lv_ldc2 (v := 31) hx hb hown (hts _ mX3_digestOfFamily_0) dX3_digestOfFamily_47 ?_
      refine lv_lmul hx hb dX3_digestOfFamily_50 ?_
      refine lv_aload_n hx hb dX3_digestOfFamily_51 rfl (lv_at hl 0 rfl) ?_
      refine lv_iload_n hx hb dX3_digestOfFamily_52 rfl (lv_at hl 1 rfl) ?_
      refine lv_iload hx hb dX3_digestOfFamily_53 (lv_at hl 3 rfl) ?_
      refine sc_i (sr_V (i := 0) (As := [.int (nI j), .int (nI (5 + k))]) (rest := [.long (v * 31)]) ⟨hx, hb, hml, hown, hts⟩ (zX3_rightOf l D a cs _ fc hfc hkn.2 j hj k (by omega) _) (cwV 2 hts gX3_digestOfFamily_X3_rightOf rfl rfl rfl (by decide +kernel) ⟨Nat.le_of_ble_eq_true rfl, Nat.le_of_ble_eq_true rfl⟩) hK hN hw (by omega) sE_o kcX3 rfl hl.1 (Nat.le_of_ble_eq_true rfl) dX3_digestOfFamily_55 ⟨Nat.le_of_ble_eq_true rfl, Nat.le_of_ble_eq_true rfl⟩) hw hA (fun H locs hw => ?_)
      refine lv_i2l hx hb dX3_digestOfFamily_58 rfl ?_
      refine lv_ladd hx hb dX3_digestOfFamily_59 ?_
      refine lv_lstore (lv' := [(4, .long ((v * 31) + ((τ (28 + j) k).toInt64))), (0, .ref (a 0)), (1, .int (nI j)), (6, .int (nI (5 + k)))]) hx hb dX3_digestOfFamily_60 hl (by decide) rfl (fun ls hl => ?_)
      refine lv_iinc (v := nI ((5 + k) + 1)) (lv' := [(6, .int (nI ((5 + k) + 1))), (4, .long ((v * 31) + ((τ (28 + j) k).toInt64))), (0, .ref (a 0)), (1, .int (nI j))]) hx hb dX3_digestOfFamily_62 hl (k := 3) rfl (nI_1 (5 + k)) (by decide) rfl (fun ls hl => ?_)
      refine lv_goto (tgt := 38) hx hb dX3_digestOfFamily_65 (by decide) ?_
      have hstep : τ = τ := by
        rfl
      have hval0 : f_dgB τ j (n + 1) k v = f_dgB τ j n (k + 1) ((v * 31) + ((τ (28 + j) k).toInt64)) := by
        rfl
      exact ih (k + 1) τ ((v * 31) + ((τ (28 + j) k).toInt64)) H locs ls ⟨by omega, hkn.2⟩ hw (lv_sub hl [2, 3, 1, 0] rfl) (fun H locs ls hw hl => kont H locs ls (by rw [hstep]; exact hw) (by rw [hval0]; exact hl))
  refine loop2 _ 3 0 τ3 (f_dgA σ j 6 0 d0) _ _ _ ⟨by decide, (by subst eτ3; exact hc)⟩ hw (lv_sub hl [1, 2, 3, 0] rfl) (fun H locs ls hw hl => ?_)
  obtain ⟨τ6, eτ6⟩ : ∃ zz : sS, τ3 = zz := ⟨_, rfl⟩
  rw [eτ6] at hw
  refine lv_lload hx hb dX3_digestOfFamily_68 (lv_at hl 0 rfl) ?_
  exact se_l hx hb hr hlocks hw (by subst eτ6 eτ3; exact rfl) (by subst eτ6 eτ3; rfl) dX3_digestOfFamily_70
theorem mX3_digest_0 : (Cond.constantLong RX3 271 (7804)) ∈ wsX3_digest := by decide +kernel
theorem mX3_digest_1 : (Cond.constantLong RX3 273 (31)) ∈ wsX3_digest := by decide +kernel
theorem mX3_digest_2 : (Cond.fieldLink RX3 129 "SaltRow" "familyCount" "I") ∈ wsX3_digest := by decide +kernel
theorem iX3_digest_X3 : ∀ w ∈ wsX30, w ∈ wsX3_digest := by decide +kernel
set_option maxHeartbeats 4000000 in
set_option maxRecDepth 100000 in
theorem zX3_digest (l : Launch) (D : va_G) (a : Nat → Nat) (cs : Nat → ClassId) (σ : sS) (fc : Nat) (hfc : fc ≤ 6) (hc : σ 0 3 = nI fc) (hz : sZ σ) : sMl l yX3_digest wsX3_digest ({ frames := 6, cells := 0, slots := 0, locals := 151 }) D a cs [.ref (a 0)] σ (f_X3_digest σ fc) (f_X3_digestS σ) := by
  intro sz
  refine Met.ofW (cc := cX3_digest) (maxL := 5) (ret := (some .long)) (by decide) rfl ?_
  intro p e s m args below meth c s₁ B hml hv
  obtain ⟨rfl, hsz, hv2⟩ := hv
  have hv3 : sB D a cs σ sz s := ⟨hsz, hv2⟩
  subst hsz
  have hw := sH_start hv3
  obtain ⟨-, -, hK, -, hN⟩ := hv3
  have hx := B.exec
  have hb := B.bytes
  have hr := B.returns
  have hts := atoms_spec (ws := wsX3_digest) B.pre
  have hown : s.vm.findClass RX3 = some m.cls := findClass_of_methodNamed B.named
  have hlocks := B.notSynchronized
  have hA : ∀ q : Nat, s.heap.size ≤ q → sA a s.heap.size q := sA_new
  have hl := lv_entry ([.ref (a 0)]) (n := 5) (Nat.le_of_ble_eq_true rfl)
  rw [lg_entry_eq]
  generalize (lg_sl ([.ref (a 0)]) ++ List.replicate (5 - (lg_sl ([.ref (a 0)])).length) Slot.unset).toArray = ls at hl ⊢
  have hl : lv_has ls 5 [(0, .ref (a 0))] := hl
  refine lv_ldc2 (v := 7804) hx hb hown (hts _ mX3_digest_0) dX3_digest_0 ?_
  refine lv_lstore_n (lv' := [(1, .long 7804), (0, .ref (a 0))]) hx hb dX3_digest_3 rfl hl (by decide) rfl (fun ls hl => ?_)
  refine lv_iconst (v := 0) hx hb dX3_digest_4 (by decide) ?_
  refine lv_istore_n (lv' := [(3, .int 0), (1, .long 7804), (0, .ref (a 0))]) hx hb dX3_digest_5 rfl hl (by decide) rfl (fun ls hl => ?_)
  have loop : ∀ (Q : State → Prop) (n : Nat) (k : Nat) (τ : sS) (v : Int64) (H : Heap) (locs : List Loc) (ls : Array Slot), k + n = 18 ∧ τ 0 3 = nI fc → sH D a cs (sA a s.heap.size) s.heap τ H locs → lv_has ls 5 [(0, .ref (a 0)), (1, .long v), (3, .int (nI k))] → (∀ (H : Heap) (locs : List Loc) (ls : Array Slot), sH D a cs (sA a s.heap.size) s.heap (τ) H locs → lv_has ls 5 [(0, .ref (a 0)), (1, .long (f_dgM τ fc n k v))] → W p l e { frames := 6, cells := 0, slots := 0, locals := 151 } s m #[Value.ref (a 0)] below meth c H locs 0 0 Q (F0 m 31 ls [])) → W p l e { frames := 6, cells := 0, slots := 0, locals := 151 } s m #[Value.ref (a 0)] below meth c H locs 0 0 Q (F0 m 6 ls []) := by
    intro Q n
    induction n with
    | zero =>
      intro k τ v H locs ls hkn hw hl kont
      refine lv_iload_n hx hb dX3_digest_6 rfl (lv_at hl 2 rfl) ?_
      refine lv_bipush (v := 17) hx hb dX3_digest_7 (by decide) ?_
      refine lv_icmp_gt (tgt := 31) hx hb dX3_digest_9 (by decide) (fun c1 => ?_) (fun c1 => absurd (by rw [show k = 18 by omega]; decide) c1)
      exact kont H locs ls hw (lv_sub hl [0, 1] rfl)
    | succ n ih =>
      intro k τ v H locs ls hkn hw hl kont
      refine lv_iload_n hx hb dX3_digest_6 rfl (lv_at hl 2 rfl) ?_
      refine lv_bipush (v := 17) hx hb dX3_digest_7 (by decide) ?_
      refine lv_icmp_gt (tgt := 31) hx hb dX3_digest_9 (by decide) (fun c2 => absurd c2 (nI_nlt (a := 17) (b := k) (by omega) (by decide))) (fun c2 => ?_)
      refine lv_lload_n hx hb dX3_digest_12 rfl (lv_at hl 1 rfl) ?_
      refine lv_ldc2 (v := 31) hx hb hown (hts _ mX3_digest_1) dX3_digest_13 ?_
      refine lv_lmul hx hb dX3_digest_16 ?_
      refine lv_aload_n hx hb dX3_digest_17 rfl (lv_at hl 0 rfl) ?_
      refine lv_iload_n hx hb dX3_digest_18 rfl (lv_at hl 2 rfl) ?_
      refine sc_i (sr_V (i := 0) (As := [.int (nI k)]) (rest := [.long (v * 31)]) ⟨hx, hb, hml, hown, hts⟩ (zX3_many l D a cs _ fc hfc hkn.2 k (by omega) _) (cwV 1 hts gX3_digest_X3_many rfl rfl rfl (by decide +kernel) ⟨Nat.le_of_ble_eq_true rfl, Nat.le_of_ble_eq_true rfl⟩) hK hN hw (by omega) sE_o kcX3 rfl hl.1 (Nat.le_of_ble_eq_true rfl) dX3_digest_19 ⟨Nat.le_of_ble_eq_true rfl, Nat.le_of_ble_eq_true rfl⟩) hw hA (fun H locs hw => ?_)
      refine lv_i2l hx hb dX3_digest_22 rfl ?_
      refine lv_ladd hx hb dX3_digest_23 ?_
      refine lw_topl (fun x3 ex3 => ?_)
      refine lv_lstore_n (lv' := [(1, .long x3), (0, .ref (a 0)), (3, .int (nI k))]) hx hb dX3_digest_24 rfl hl (by decide) rfl (fun ls hl => ?_)
      refine lv_iinc (v := nI (k + 1)) (lv' := [(3, .int (nI (k + 1))), (1, .long x3), (0, .ref (a 0))]) hx hb dX3_digest_25 hl (k := 2) rfl (nI_1 k) (by decide) rfl (fun ls hl => ?_)
      refine lv_goto (tgt := 6) hx hb dX3_digest_28 (by decide) ?_
      have hstep : τ = τ := by
        subst ex3; rfl
      have hval0 : f_dgM τ fc (n + 1) k v = f_dgM τ fc n (k + 1) x3 := by
        subst ex3; rfl
      exact ih (k + 1) τ x3 H locs ls ⟨by omega, hkn.2⟩ hw (lv_sub hl [2, 1, 0] rfl) (fun H locs ls hw hl => kont H locs ls (by rw [hstep]; exact hw) (by rw [hval0]; exact hl))
  refine loop _ 18 0 σ 7804 _ _ _ ⟨by decide, hc⟩ hw (lv_sub hl [2, 1, 0] rfl) (fun H locs ls hw hl => ?_)
  obtain ⟨τ4, eτ4⟩ : ∃ zz : sS, σ = zz := ⟨_, rfl⟩
  rw [eτ4] at hw
  refine lv_iconst (v := 0) hx hb dX3_digest_31 (by decide) ?_
  refine lv_istore_n (lv' := [(3, .int 0), (0, .ref (a 0)), (1, .long (f_dgM σ fc 18 0 7804))]) hx hb dX3_digest_32 rfl hl (by decide) rfl (fun ls hl => ?_)
  have loop2 : ∀ (Q : State → Prop) (n : Nat) (k : Nat) (τ : sS) (v : Int64) (H : Heap) (locs : List Loc) (ls : Array Slot), k + n = 8 → sH D a cs (sA a s.heap.size) s.heap τ H locs → lv_has ls 5 [(0, .ref (a 0)), (1, .long v), (3, .int (nI k))] → (∀ (H : Heap) (locs : List Loc) (ls : Array Slot), sH D a cs (sA a s.heap.size) s.heap (τ) H locs → lv_has ls 5 [(0, .ref (a 0)), (1, .long (f_dgP τ n k v))] → W p l e { frames := 6, cells := 0, slots := 0, locals := 151 } s m #[Value.ref (a 0)] below meth c H locs 0 0 Q (F0 m 76 ls [])) → W p l e { frames := 6, cells := 0, slots := 0, locals := 151 } s m #[Value.ref (a 0)] below meth c H locs 0 0 Q (F0 m 33 ls []) := by
    intro Q n
    induction n with
    | zero =>
      intro k τ v H locs ls hkn hw hl kont
      refine lv_iload_n hx hb dX3_digest_33 rfl (lv_at hl 2 rfl) ?_
      refine lv_bipush (v := 8) hx hb dX3_digest_34 (by decide) ?_
      refine lv_icmp_ge (tgt := 76) hx hb dX3_digest_36 (by decide) (fun c5 => ?_) (fun c5 => absurd (by rw [show k = 8 by omega]; decide) c5)
      exact kont H locs ls hw (lv_sub hl [0, 1] rfl)
    | succ n ih =>
      intro k τ v H locs ls hkn hw hl kont
      refine lv_iload_n hx hb dX3_digest_33 rfl (lv_at hl 2 rfl) ?_
      refine lv_bipush (v := 8) hx hb dX3_digest_34 (by decide) ?_
      refine lv_icmp_ge (tgt := 76) hx hb dX3_digest_36 (by decide) (fun c6 => absurd c6 (nI_ge (a := k) (b := 8) (by omega) (by decide))) (fun c6 => ?_)
      refine lv_iconst (v := 0) hx hb dX3_digest_39 (by decide) ?_
      refine lv_istore (lv' := [(4, .int 0), (0, .ref (a 0)), (1, .long v), (3, .int (nI k))]) hx hb dX3_digest_40 hl (by decide) rfl (fun ls hl => ?_)
      have loop3 : ∀ (Q : State → Prop) (n2 : Nat) (k2 : Nat) (τ : sS) (v : Int64) (H : Heap) (locs : List Loc) (ls : Array Slot), k2 + n2 = 11 → sH D a cs (sA a s.heap.size) s.heap τ H locs → lv_has ls 5 [(0, .ref (a 0)), (1, .long v), (3, .int (nI k)), (4, .int (nI k2))] → (∀ (H : Heap) (locs : List Loc) (ls : Array Slot), sH D a cs (sA a s.heap.size) s.heap (τ) H locs → lv_has ls 5 [(0, .ref (a 0)), (1, .long (f_dgR (τ (5 + 8 * 0 + k)) n2 k2 v)), (3, .int (nI k))] → W p l e { frames := 6, cells := 0, slots := 0, locals := 151 } s m #[Value.ref (a 0)] below meth c H locs 0 0 Q (F0 m 70 ls [])) → W p l e { frames := 6, cells := 0, slots := 0, locals := 151 } s m #[Value.ref (a 0)] below meth c H locs 0 0 Q (F0 m 42 ls []) := by
        intro Q n2
        induction n2 with
        | zero =>
          intro k2 τ v H locs ls hkn2 hw hl kont2
          refine lv_iload hx hb dX3_digest_42 (lv_at hl 3 rfl) ?_
          refine lv_bipush (v := 10) hx hb dX3_digest_44 (by decide) ?_
          refine lv_icmp_gt (tgt := 70) hx hb dX3_digest_46 (by decide) (fun c7 => ?_) (fun c7 => absurd (by rw [show k2 = 11 by omega]; decide) c7)
          exact kont2 H locs ls hw (lv_sub hl [0, 1, 2] rfl)
        | succ n2 ih2 =>
          intro k2 τ v H locs ls hkn2 hw hl kont2
          refine lv_iload hx hb dX3_digest_42 (lv_at hl 3 rfl) ?_
          refine lv_bipush (v := 10) hx hb dX3_digest_44 (by decide) ?_
          refine lv_icmp_gt (tgt := 70) hx hb dX3_digest_46 (by decide) (fun c8 => absurd c8 (nI_nlt (a := 10) (b := k2) (by omega) (by decide))) (fun c8 => ?_)
          refine lv_lload_n hx hb dX3_digest_49 rfl (lv_at hl 1 rfl) ?_
          refine lv_ldc2 (v := 31) hx hb hown (hts _ mX3_digest_1) dX3_digest_50 ?_
          refine lv_lmul hx hb dX3_digest_53 ?_
          refine lv_aload_n hx hb dX3_digest_54 rfl (lv_at hl 0 rfl) ?_
          refine lv_iload_n hx hb dX3_digest_55 rfl (lv_at hl 2 rfl) ?_
          refine lv_iload hx hb dX3_digest_56 (lv_at hl 3 rfl) ?_
          refine sc_i (sr_V (i := 0) (As := [.int (nI k), .int (nI k2)]) (rest := [.long (v * 31)]) ⟨hx, hb, hml, hown, hts⟩ (zX3_ofPond l D a cs _ k (by omega) k2 (by omega) _) (cwV 2 hts gX3_digest_X3_ofPond rfl rfl rfl (by decide +kernel) ⟨Nat.le_of_ble_eq_true rfl, Nat.le_of_ble_eq_true rfl⟩) hK hN hw (by omega) sE_o kcX3 rfl hl.1 (Nat.le_of_ble_eq_true rfl) dX3_digest_58 ⟨Nat.le_of_ble_eq_true rfl, Nat.le_of_ble_eq_true rfl⟩) hw hA (fun H locs hw => ?_)
          refine lv_i2l hx hb dX3_digest_61 rfl ?_
          refine lv_ladd hx hb dX3_digest_62 ?_
          refine lw_topl (fun x9 ex9 => ?_)
          refine lv_lstore_n (lv' := [(1, .long x9), (0, .ref (a 0)), (3, .int (nI k)), (4, .int (nI k2))]) hx hb dX3_digest_63 rfl hl (by decide) rfl (fun ls hl => ?_)
          refine lv_iinc (v := nI (k2 + 1)) (lv' := [(4, .int (nI (k2 + 1))), (1, .long x9), (0, .ref (a 0)), (3, .int (nI k))]) hx hb dX3_digest_64 hl (k := 3) rfl (nI_1 k2) (by decide) rfl (fun ls hl => ?_)
          refine lv_goto (tgt := 42) hx hb dX3_digest_67 (by decide) ?_
          have hstep : τ = τ := by
            subst ex9; rfl
          have hval0 : f_dgR (τ (5 + 8 * 0 + k)) (n2 + 1) k2 v = f_dgR (τ (5 + 8 * 0 + k)) n2 (k2 + 1) x9 := by
            subst ex9; rfl
          exact ih2 (k2 + 1) τ x9 H locs ls (by omega) hw (lv_sub hl [2, 1, 3, 0] rfl) (fun H locs ls hw hl => kont2 H locs ls (by rw [hstep]; exact hw) (by rw [hval0]; exact hl))
      refine loop3 _ 11 0 τ v _ _ _ (by decide) hw (lv_sub hl [1, 2, 3, 0] rfl) (fun H locs ls hw hl => ?_)
      obtain ⟨τ10, eτ10⟩ : ∃ zz : sS, τ = zz := ⟨_, rfl⟩
      rw [eτ10] at hw
      refine lv_iinc (v := nI (k + 1)) (lv' := [(3, .int (nI (k + 1))), (0, .ref (a 0)), (1, .long (f_dgR (τ (5 + 8 * 0 + k)) 11 0 v))]) hx hb dX3_digest_70 hl (k := 2) rfl (nI_1 k) (by decide) rfl (fun ls hl => ?_)
      refine lv_goto (tgt := 33) hx hb dX3_digest_73 (by decide) ?_
      have hstep : τ = τ10 := by
        subst eτ10; rfl
      have hval0 : f_dgP τ (n + 1) k v = f_dgP τ10 n (k + 1) (f_dgR (τ (5 + 8 * 0 + k)) 11 0 v) := by
        subst eτ10; rfl
      exact ih (k + 1) τ10 (f_dgR (τ (5 + 8 * 0 + k)) 11 0 v) H locs ls (by omega) hw (lv_sub hl [1, 2, 0] rfl) (fun H locs ls hw hl => kont H locs ls (by rw [hstep]; exact hw) (by rw [hval0]; exact hl))
  refine loop2 _ 8 0 τ4 (f_dgM σ fc 18 0 7804) _ _ _ (by decide) hw (lv_sub hl [1, 2, 0] rfl) (fun H locs ls hw hl => ?_)
  obtain ⟨τ11, eτ11⟩ : ∃ zz : sS, τ4 = zz := ⟨_, rfl⟩
  rw [eτ11] at hw
  refine lv_iconst (v := 0) hx hb dX3_digest_76 (by decide) ?_
  refine lv_istore_n (lv' := [(3, .int 0), (0, .ref (a 0)), (1, .long (f_dgP τ4 8 0 (f_dgM σ fc 18 0 7804)))]) hx hb dX3_digest_77 rfl hl (by decide) rfl (fun ls hl => ?_)
  have loop4 : ∀ (Q : State → Prop) (n : Nat) (k : Nat) (τ : sS) (v : Int64) (H : Heap) (locs : List Loc) (ls : Array Slot), k + n = fc ∧ τ 0 3 = nI fc → sH D a cs (sA a s.heap.size) s.heap τ H locs → lv_has ls 5 [(0, .ref (a 0)), (1, .long v), (3, .int (nI k))] → (∀ (H : Heap) (locs : List Loc) (ls : Array Slot), sH D a cs (sA a s.heap.size) s.heap (τ) H locs → lv_has ls 5 [(0, .ref (a 0)), (1, .long (f_dgF τ n k v))] → W p l e { frames := 6, cells := 0, slots := 0, locals := 151 } s m #[Value.ref (a 0)] below meth c H locs 0 0 Q (F0 m 99 ls [])) → W p l e { frames := 6, cells := 0, slots := 0, locals := 151 } s m #[Value.ref (a 0)] below meth c H locs 0 0 Q (F0 m 78 ls []) := by
    intro Q n
    induction n with
    | zero =>
      intro k τ v H locs ls hkn hw hl kont
      refine lv_iload_n hx hb dX3_digest_78 rfl (lv_at hl 2 rfl) ?_
      refine lv_aload_n hx hb dX3_digest_79 rfl (lv_at hl 0 rfl) ?_
      refine sg_o hx hb hts iX3_digest_X3 hown hK hw 3 (by decide) (hts _ mX3_digest_2) dX3_digest_80 ?_
      refine lv_icmp_ge (tgt := 99) hx hb dX3_digest_83 (by decide) (fun c12 => ?_) (fun c12 => absurd (by rw [hkn.2, show k = fc by omega]; exact Int32.le_refl _) c12)
      exact kont H locs ls hw (lv_sub hl [0, 1] rfl)
    | succ n ih =>
      intro k τ v H locs ls hkn hw hl kont
      refine lv_iload_n hx hb dX3_digest_78 rfl (lv_at hl 2 rfl) ?_
      refine lv_aload_n hx hb dX3_digest_79 rfl (lv_at hl 0 rfl) ?_
      refine sg_o hx hb hts iX3_digest_X3 hown hK hw 3 (by decide) (hts _ mX3_digest_2) dX3_digest_80 ?_
      refine lv_icmp_ge (tgt := 99) hx hb dX3_digest_83 (by decide) (fun c13 => absurd c13 (by rw [hkn.2]; exact nI_ge (by omega) (by omega))) (fun c13 => ?_)
      refine lv_aload_n hx hb dX3_digest_86 rfl (lv_at hl 0 rfl) ?_
      refine lv_iload_n hx hb dX3_digest_87 rfl (lv_at hl 2 rfl) ?_
      refine lv_lload_n hx hb dX3_digest_88 rfl (lv_at hl 1 rfl) ?_
      refine sc_l (sr_V (i := 0) (As := [.int (nI k), .long v]) (rest := []) ⟨hx, hb, hml, hown, hts⟩ (zX3_digestOfFamily l D a cs _ fc hfc hkn.2 k (by omega) v _) (cwV 2 hts gX3_digest_X3_digestOfFamily rfl rfl rfl (by decide +kernel) ⟨Nat.le_of_ble_eq_true rfl, Nat.le_of_ble_eq_true rfl⟩) hK hN hw (by omega) sE_o kcX3 rfl hl.1 (Nat.le_of_ble_eq_true rfl) dX3_digest_89 ⟨Nat.le_of_ble_eq_true rfl, Nat.le_of_ble_eq_true rfl⟩) hw hA (fun H locs hw => ?_)
      refine lw_topl (fun x14 ex14 => ?_)
      refine lv_lstore_n (lv' := [(1, .long x14), (0, .ref (a 0)), (3, .int (nI k))]) hx hb dX3_digest_92 rfl hl (by decide) rfl (fun ls hl => ?_)
      refine lv_iinc (v := nI (k + 1)) (lv' := [(3, .int (nI (k + 1))), (1, .long x14), (0, .ref (a 0))]) hx hb dX3_digest_93 hl (k := 2) rfl (nI_1 k) (by decide) rfl (fun ls hl => ?_)
      refine lv_goto (tgt := 78) hx hb dX3_digest_96 (by decide) ?_
      have hstep : τ = τ := by
        subst ex14; rfl
      have hval0 : f_dgF τ (n + 1) k v = f_dgF τ n (k + 1) x14 := by
        subst ex14; rfl
      exact ih (k + 1) τ x14 H locs ls ⟨by omega, hkn.2⟩ hw (lv_sub hl [2, 1, 0] rfl) (fun H locs ls hw hl => kont H locs ls (by rw [hstep]; exact hw) (by rw [hval0]; exact hl))
  refine loop4 _ fc 0 τ11 (f_dgP τ4 8 0 (f_dgM σ fc 18 0 7804)) _ _ _ ⟨Nat.zero_add fc, (by subst eτ11 eτ4; exact hc)⟩ hw (lv_sub hl [1, 2, 0] rfl) (fun H locs ls hw hl => ?_)
  obtain ⟨τ15, eτ15⟩ : ∃ zz : sS, τ11 = zz := ⟨_, rfl⟩
  rw [eτ15] at hw
  refine lv_iconst (v := 5) hx hb dX3_digest_99 (by decide) ?_
  refine lv_istore_n (lv' := [(3, .int 5), (0, .ref (a 0)), (1, .long (f_dgF τ11 fc 0 (f_dgP τ4 8 0 (f_dgM σ fc 18 0 7804))))]) hx hb dX3_digest_100 rfl hl (by decide) rfl (fun ls hl => ?_)
  have loop5 : ∀ (Q : State → Prop) (n : Nat) (k : Nat) (τ : sS) (v : Int64) (H : Heap) (locs : List Loc) (ls : Array Slot), k + n = 3 ∧ sZ τ → sH D a cs (sA a s.heap.size) s.heap τ H locs → lv_has ls 5 [(0, .ref (a 0)), (1, .long v), (3, .int (nI (5 + k)))] → (∀ (H : Heap) (locs : List Loc) (ls : Array Slot), sH D a cs (sA a s.heap.size) s.heap (f_dgS n k τ) H locs → lv_has ls 5 [(0, .ref (a 0)), (1, .long (f_dgC n k τ v))] → W p l e { frames := 6, cells := 0, slots := 0, locals := 151 } s m #[Value.ref (a 0)] below meth c H locs 0 0 Q (F0 m 129 ls [])) → W p l e { frames := 6, cells := 0, slots := 0, locals := 151 } s m #[Value.ref (a 0)] below meth c H locs 0 0 Q (F0 m 101 ls []) := by
    intro Q n
    induction n with
    | zero =>
      intro k τ v H locs ls hkn hw hl kont
      refine lv_iload_n hx hb dX3_digest_101 rfl (lv_at hl 2 rfl) ?_
      refine lv_bipush (v := 8) hx hb dX3_digest_102 (by decide) ?_
      refine lv_icmp_ge (tgt := 129) hx hb dX3_digest_104 (by decide) (fun c16 => ?_) (fun c16 => absurd (by rw [show k = 3 by omega]; decide) c16)
      exact kont H locs ls hw (lv_sub hl [0, 1] rfl)
    | succ n ih =>
      intro k τ v H locs ls hkn hw hl kont
      refine lv_iload_n hx hb dX3_digest_101 rfl (lv_at hl 2 rfl) ?_
      refine lv_bipush (v := 8) hx hb dX3_digest_102 (by decide) ?_
      refine lv_icmp_ge (tgt := 129) hx hb dX3_digest_104 (by decide) (fun c17 => absurd c17 (nI_ge (a := 5 + k) (b := 8) (by omega) (by decide))) (fun c17 => ?_)
      refine lv_lload_n hx hb dX3_digest_107 rfl (lv_at hl 1 rfl) ?_
      refine lv_ldc2 (v := 31) hx hb hown (hts _ mX3_digest_1) dX3_digest_108 ?_
      refine lv_lmul hx hb dX3_digest_111 ?_
      refine lv_aload_n hx hb dX3_digest_112 rfl (lv_at hl 0 rfl) ?_
      refine lv_iload_n hx hb dX3_digest_113 rfl (lv_at hl 2 rfl) ?_
      refine lv_bipush (v := 7) hx hb dX3_digest_114 (by decide) ?_
      refine lv_iconst (v := 3) hx hb dX3_digest_116 (by decide) ?_
      refine sc_i (sr_V (i := 0) (As := [.int (nI (5 + k)), .int 7, .int 3]) (rest := [.long (v * 31)]) ⟨hx, hb, hml, hown, hts⟩ (zX3_crustIn l D a cs _ hkn.2 k (by omega) 7 3 (by decide) (by decide) (by decide) (by decide) _) (cwV 3 hts gX3_digest_X3_crustIn rfl rfl rfl (by decide +kernel) ⟨Nat.le_of_ble_eq_true rfl, Nat.le_of_ble_eq_true rfl⟩) hK hN hw (by omega) sE_o kcX3 rfl hl.1 (Nat.le_of_ble_eq_true rfl) dX3_digest_117 ⟨Nat.le_of_ble_eq_true rfl, Nat.le_of_ble_eq_true rfl⟩) hw hA (fun H locs hw => ?_)
      obtain ⟨τ18, eτ18⟩ : ∃ zz : sS, f_X3_crustIn τ k 7 3 = zz := ⟨_, rfl⟩
      rw [eτ18] at hw
      refine lv_i2l hx hb dX3_digest_120 rfl ?_
      refine lv_ladd hx hb dX3_digest_121 ?_
      refine lw_topl (fun x19 ex19 => ?_)
      refine lv_lstore_n (lv' := [(1, .long x19), (0, .ref (a 0)), (3, .int (nI (5 + k)))]) hx hb dX3_digest_122 rfl hl (by decide) rfl (fun ls hl => ?_)
      refine lv_iinc (v := nI ((5 + k) + 1)) (lv' := [(3, .int (nI ((5 + k) + 1))), (1, .long x19), (0, .ref (a 0))]) hx hb dX3_digest_123 hl (k := 2) rfl (nI_1 (5 + k)) (by decide) rfl (fun ls hl => ?_)
      refine lv_goto (tgt := 101) hx hb dX3_digest_126 (by decide) ?_
      have hstep : f_dgS (n + 1) k τ = f_dgS n (k + 1) τ18 := by
        subst ex19 eτ18; rfl
      have hval0 : f_dgC (n + 1) k τ v = f_dgC n (k + 1) τ18 x19 := by
        subst ex19 eτ18; rfl
      exact ih (k + 1) τ18 x19 H locs ls ⟨by omega, by subst ex19 eτ18; exact sZ_of hkn.2 (fun i hi => k_crustIn hi)⟩ hw (lv_sub hl [2, 1, 0] rfl) (fun H locs ls hw hl => kont H locs ls (by rw [hstep]; exact hw) (by rw [hval0]; exact hl))
  refine loop5 _ 3 0 τ15 (f_dgF τ11 fc 0 (f_dgP τ4 8 0 (f_dgM σ fc 18 0 7804))) _ _ _ ⟨by decide, (by subst eτ15 eτ11 eτ4; exact hz)⟩ hw (lv_sub hl [1, 2, 0] rfl) (fun H locs ls hw hl => ?_)
  obtain ⟨τ20, eτ20⟩ : ∃ zz : sS, f_dgS 3 0 τ15 = zz := ⟨_, rfl⟩
  rw [eτ20] at hw
  refine lv_lload_n hx hb dX3_digest_129 rfl (lv_at hl 1 rfl) ?_
  refine lv_ldc2 (v := 31) hx hb hown (hts _ mX3_digest_1) dX3_digest_130 ?_
  refine lv_lmul hx hb dX3_digest_133 ?_
  refine lv_aload_n hx hb dX3_digest_134 rfl (lv_at hl 0 rfl) ?_
  refine lv_iconst (v := 3) hx hb dX3_digest_135 (by decide) ?_
  refine lv_bipush (v := 6) hx hb dX3_digest_136 (by decide) ?_
  refine lv_iconst (v := 2) hx hb dX3_digest_138 (by decide) ?_
  refine sc_i (sr_V (i := 0) (As := [.int 3, .int 6, .int 2]) (rest := [.long ((f_dgC 3 0 τ15 (f_dgF τ11 fc 0 (f_dgP τ4 8 0 (f_dgM σ fc 18 0 7804)))) * 31)]) ⟨hx, hb, hml, hown, hts⟩ (zX3_bestGates l D a cs _ (by subst eτ20 eτ15 eτ11 eτ4; exact sZ_of hz (fun i hi => k_dgS hi _ _ _)) 3 (by decide) 6 2 (by decide) (by decide) (by decide) (by decide) _) (cwV 3 hts gX3_digest_X3_bestGates rfl rfl rfl (by decide +kernel) ⟨Nat.le_of_ble_eq_true rfl, Nat.le_of_ble_eq_true rfl⟩) hK hN hw (by omega) sE_o kcX3 rfl hl.1 (Nat.le_of_ble_eq_true rfl) dX3_digest_139 ⟨Nat.le_of_ble_eq_true rfl, Nat.le_of_ble_eq_true rfl⟩) hw hA (fun H locs hw => ?_)
  obtain ⟨τ21, eτ21⟩ : ∃ zz : sS, f_X3_bestS 3 6 2 256 0 τ20 = zz := ⟨_, rfl⟩
  rw [eτ21] at hw
  refine lv_i2l hx hb dX3_digest_142 rfl ?_
  refine lv_ladd hx hb dX3_digest_143 ?_
  refine lw_topl (fun x22 ex22 => ?_)
  refine lv_lstore_n (lv' := [(1, .long x22), (0, .ref (a 0))]) hx hb dX3_digest_144 rfl hl (by decide) rfl (fun ls hl => ?_)
  refine lv_lload_n hx hb dX3_digest_145 rfl (lv_at hl 0 rfl) ?_
  refine lv_ldc2 (v := 31) hx hb hown (hts _ mX3_digest_1) dX3_digest_146 ?_
  refine lv_lmul hx hb dX3_digest_149 ?_
  refine lv_aload_n hx hb dX3_digest_150 rfl (lv_at hl 1 rfl) ?_
  refine lv_bipush (v := 9) hx hb dX3_digest_151 (by decide) ?_
  refine lv_iconst (v := 1) hx hb dX3_digest_153 (by decide) ?_
  refine sc_i (sr_V (i := 0) (As := [.int 9, .int 1]) (rest := [.long (x22 * 31)]) ⟨hx, hb, hml, hown, hts⟩ (zX3_tideOn l D a cs _ 9 1 (by decide) (by decide) _) (cwV 2 hts gX3_digest_X3_tideOn rfl rfl rfl (by decide +kernel) ⟨Nat.le_of_ble_eq_true rfl, Nat.le_of_ble_eq_true rfl⟩) hK hN hw (by omega) sE_o kcX3 rfl hl.1 (Nat.le_of_ble_eq_true rfl) dX3_digest_154 ⟨Nat.le_of_ble_eq_true rfl, Nat.le_of_ble_eq_true rfl⟩) hw hA (fun H locs hw => ?_)
  refine lv_i2l hx hb dX3_digest_157 rfl ?_
  refine lv_ladd hx hb dX3_digest_158 ?_
  refine lw_topl (fun x23 ex23 => ?_)
  refine lv_lstore_n (lv' := [(1, .long x23), (0, .ref (a 0))]) hx hb dX3_digest_159 rfl hl (by decide) rfl (fun ls hl => ?_)
  refine lv_lload_n hx hb dX3_digest_160 rfl (lv_at hl 0 rfl) ?_
  refine lv_ldc2 (v := 31) hx hb hown (hts _ mX3_digest_1) dX3_digest_161 ?_
  refine lv_lmul hx hb dX3_digest_164 ?_
  refine lv_aload_n hx hb dX3_digest_165 rfl (lv_at hl 1 rfl) ?_
  refine lv_iconst (v := 3) hx hb dX3_digest_166 (by decide) ?_
  refine lv_iconst (v := 0) hx hb dX3_digest_167 (by decide) ?_
  refine sc_i (sr_V (i := 0) (As := [.int 3, .int 0]) (rest := [.long (x23 * 31)]) ⟨hx, hb, hml, hown, hts⟩ (zX3_tideOn l D a cs _ 3 0 (by decide) (by decide) _) (cwV 2 hts gX3_digest_X3_tideOn rfl rfl rfl (by decide +kernel) ⟨Nat.le_of_ble_eq_true rfl, Nat.le_of_ble_eq_true rfl⟩) hK hN hw (by omega) sE_o kcX3 rfl hl.1 (Nat.le_of_ble_eq_true rfl) dX3_digest_168 ⟨Nat.le_of_ble_eq_true rfl, Nat.le_of_ble_eq_true rfl⟩) hw hA (fun H locs hw => ?_)
  refine lv_i2l hx hb dX3_digest_171 rfl ?_
  refine lv_ladd hx hb dX3_digest_172 ?_
  exact se_l hx hb hr hlocks hw (by subst ex23 ex22 eτ21 eτ20 eτ15 eτ11 eτ4; exact rfl) (by subst ex23 ex22 eτ21 eτ20 eτ15 eτ11 eτ4; exact rfl) dX3_digest_173
end
section
/-! The class's constructors: each world as a list, the cells that are made behind it. -/
def sNA (U : State) : Prop := sN U ∧ va_AO "SaltRow$Pond" U ∧ va_AO "SaltRow$Family" U
theorem sNA_calling {v : Array Value} {U : State} {g : JFrame} {mk : MethodId} (h : sNA U) : sNA (U.calling g mk v) := ⟨sN_same (u := U) (U := U.calling g mk v) rfl h.1, va_AO.moved (u := U) (U := U.calling g mk v) (Vm.Alike.refl U.vm) h.2.1, va_AO.moved (u := U) (U := U.calling g mk v) (Vm.Alike.refl U.vm) h.2.2⟩
theorem sNA_warm {s U : State} (h : s.WarmedH U.vm) (hN : sNA s) : sNA U := ⟨sN_warm h hN.1, va_AO.moved h.alike hN.2.1, va_AO.moved h.alike hN.2.2⟩
def sPE : va_E := .inr (kX1, sPv (upd (fun _ => 0) 0 3))
def sPl (L : List Nat) : va_W := L.map (fun x => (x, sPE))
def sQl (L : List Nat) (n : Nat) : vp_A := (n, .inr (.inr (.inr (.inr (fun j => L[j]?)))))
abbrev sRE (q : Nat) : va_E := .inr (kX2, [.ref q, .int 0, .int 0, .int 0, .int 0])
theorem sPl_app (L : List Nat) (n : Nat) : sPl (L ++ [n]) = sPl L ++ [(n, sPE)] := by simp [sPl]
theorem sQl_up (L : List Nat) (N n : Nat) : va_up (fun j => L[j]?) L.length (some n) = (fun j => (L ++ [n])[j]?) := by
  funext j
  by_cases h : j = L.length
  · subst h; rw [va_up_self]; simp
  · rw [va_up_ne _ _ h]
    show L[j]? = (L ++ [n])[j]?
    by_cases h2 : j < L.length
    · rw [List.getElem?_append_left h2]
    · rw [List.getElem?_eq_none (l := L) (by omega), List.getElem?_eq_none (by rw [List.length_append]; show L.length + 1 ≤ j; omega)]
theorem mX1_i_l : Cond.methodLink RX1 3 objectInit ∈ wsX1_init := by decide +kernel
theorem mX1_i_i : Cond.instanceMethod objectInit ∈ wsX1_init := by decide +kernel
theorem mX1_i_c : Cond.code objectInit ⟨#[0xb1]⟩ 1 none ∈ wsX1_init := by decide +kernel
theorem mX1_i_f : Cond.fieldLink RX1 9 "SaltRow$Pond" "area" "I" ∈ wsX1_init := by decide +kernel
theorem iX1_i_X1 : ∀ w ∈ wsX10, w ∈ wsX1_init := by decide +kernel
set_option maxHeartbeats 4000000 in
set_option maxRecDepth 100000 in
/-- Pond(): the area is 3 -/
theorem zX1_init (l : Launch) (D : va_G) (h0 sz : Nat) : Met l yX1_init wsX1_init ({ frames := 1, cells := 0, slots := 0, locals := 12 }) (va_Pc [.ref h0] (fun U => U.heap.size = sz ∧ va_P D vwCl [(h0, .inr (kX1, sPv (fun _ => 0)))] U.heap ∧ va_K D vwCl [] U ∧ va_D (fun _ => True) [(h0, .inr (kX1, sPv (fun _ => 0)))])) (va_Qv (fun (_ : Unit) => True) (fun _ t => va_P D vwCl [(h0, sPE)] t.heap ∧ va_D (va_A [(h0, .inr (kX1, sPv (fun _ => 0)))] sz) [(h0, sPE)]) (va_A [(h0, .inr (kX1, sPv (fun _ => 0)))] sz)) 0 0 (va_A [(h0, .inr (kX1, sPv (fun _ => 0)))] sz) := by
  refine Met.ofW (cc := cX1_init) (maxL := 1) (ret := none) (by decide) rfl ?_
  intro p e s m args below meth c s₁ B hml hv
  obtain ⟨rfl, hsz, hP, hK, hD0⟩ := hv
  have hx := B.exec
  have hb := B.bytes
  have hr := B.returns
  have hts := atoms_spec (ws := wsX1_init) B.pre
  have hown : s.vm.findClass RX1 = some m.cls := findClass_of_methodNamed B.named
  have hlocks := B.notSynchronized
  subst hsz
  have hD := hD0.self (sz := s.heap.size)
  have hS : va_S (va_A [(h0, .inr (kX1, sPv (fun _ => 0)))] s.heap.size) s.heap s.heap [] := va_S.rf
  have hl := lv_entry ([.ref h0]) (n := 1) (Nat.le_of_ble_eq_true rfl)
  rw [lg_entry_eq]
  generalize (lg_sl ([.ref h0]) ++ List.replicate (1 - (lg_sl ([.ref h0])).length) Slot.unset).toArray = ls at hl ⊢
  have hl : lv_has ls 1 [(0, .ref h0)] := hl
  refine lv_aload_n hx hb dX1_init_0 rfl (lv_at hl 0 rfl) ?_
  refine W.objInit hx hb hown (hts _ mX1_i_l) (hts _ mX1_i_i) (hts _ mX1_i_c) rfl (by rw [hml]; exact hl.1) rfl dX1_init_1 (Nat.le_of_ble_eq_true rfl) (Nat.le_of_ble_eq_true rfl) ?_
  refine W.eq (g2 := F0 m 4 ls []) rfl ?_
  refine lv_aload_n hx hb dX1_init_4 rfl (lv_at hl 0 rfl) ?_
  refine lv_iconst (v := 3) hx hb dX1_init_5 (by decide) ?_
  refine va_put (D := D) (ci := kX1) (v := .int 3) (ty := .int) (C := RX1) (T := TX1) (N := 12) hx hb hts iX1_i_X1 tyX1 tyX1_ok nmX1 hown hK hP hD hS 0 rfl kcX1 0 (by decide) (hts _ mX1_i_f) (fun _ h9 => h9) rfl (by decide +kernel) rfl rfl (Nat.le_of_ble_eq_true rfl) dX1_init_6 (fun H locs hP hD hS => ?_)
  exact W.vret hx hb hr (fun t ht hW => ⟨⟨(), rfl, trivial, by show va_P D vwCl [(h0, sPE)] t.heap; rw [ht]; exact hP, hD⟩, hS.F ht⟩) hS.2.2 dX1_init_9 hlocks
theorem mX2_i_l : Cond.methodLink RX2 3 objectInit ∈ wsX2_init := by decide +kernel
theorem mX2_i_i : Cond.instanceMethod objectInit ∈ wsX2_init := by decide +kernel
theorem mX2_i_c : Cond.code objectInit ⟨#[0xb1]⟩ 1 none ∈ wsX2_init := by decide +kernel
theorem mX2_i_k : Cond.classLink RX2 9 RX1 ∈ wsX2_init := by decide +kernel
theorem mX2_i_f : Cond.fieldLink RX2 11 "SaltRow$Row" "ponds" "[LSaltRow$Pond;" ∈ wsX2_init := by decide +kernel
theorem mX2_i_n : Cond.instantiable RX1 12 ∈ wsX2_init := by decide +kernel
theorem mX2_i_z : Cond.initialized RX1 ∈ wsX2_init := by decide +kernel
theorem mX2_i_y : Cond.instanceMethod yX1_init ∈ wsX2_init := by decide +kernel
theorem iX2_i_X1 : ∀ w ∈ wsX10, w ∈ wsX2_init := by decide +kernel
theorem iX2_i_X2 : ∀ w ∈ wsX20, w ∈ wsX2_init := by decide +kernel
abbrev sR0 (h0 : Nat) : va_W := [(h0, .inr (kX2, [.null, .int 0, .int 0, .int 0, .int 0]))]
/-- a row that is made: its array, its ponds -/
abbrev sRW (h0 q : Nat) (cA : ClassId) (L : List Nat) : va_W := [(h0, sRE q), (q, .inl (cA, sQl L 8))] ++ sPl L
def sRQ (D : va_G) (h0 sz : Nat) : Array Value → State → Outcome → State → Prop := va_Qv (fun (u : Nat × ClassId × List Nat) => u.2.2.length = 8) (fun u t => va_P D vwCl (sRW h0 u.1 u.2.1 u.2.2) t.heap ∧ va_K D vwCl [(u.2.1, .object "SaltRow$Pond")] t ∧ va_D (va_A (sR0 h0) sz) (sRW h0 u.1 u.2.1 u.2.2)) (va_A (sR0 h0) sz)
set_option maxHeartbeats 4000000 in
set_option maxRecDepth 100000 in
/-- Row(): an array and eight ponds come -/
theorem zX2_init (l : Launch) (D : va_G) (h0 sz : Nat) : Met l yX2_init wsX2_init ({ frames := 2, cells := 9, slots := 104, locals := 32 }) (va_Pc [.ref h0] (fun U => U.heap.size = sz ∧ va_P D vwCl (sR0 h0) U.heap ∧ va_K D vwCl [] U ∧ va_D (fun _ => True) (sR0 h0) ∧ sNA U)) (sRQ D h0 sz) 9 104 (va_A (sR0 h0) sz) := by
  refine Met.ofW (cc := cX2_init) (maxL := 2) (ret := none) (by decide) rfl ?_
  intro p e s m args below meth c s₁ B hml hv
  obtain ⟨rfl, hsz, hP, hK, hD0, hNA⟩ := hv
  have hx := B.exec
  have hb := B.bytes
  have hr := B.returns
  have hts := atoms_spec (ws := wsX2_init) B.pre
  have hown : s.vm.findClass RX2 = some m.cls := findClass_of_methodNamed B.named
  have hlocks := B.notSynchronized
  have hin : meth.name = "<init>" := (name_of_methodNamed B.named B.method).1
  subst hsz
  have hD := hD0.self (sz := s.heap.size)
  have hA : ∀ q : Nat, s.heap.size ≤ q → (va_A (sR0 h0) s.heap.size) q := fun q h => Or.inr h
  have hS : va_S (va_A (sR0 h0) s.heap.size) s.heap s.heap [] := va_S.rf
  have hl := lv_entry ([.ref h0]) (n := 2) (Nat.le_of_ble_eq_true rfl)
  rw [lg_entry_eq]
  generalize (lg_sl ([.ref h0]) ++ List.replicate (2 - (lg_sl ([.ref h0])).length) Slot.unset).toArray = ls at hl ⊢
  have hl : lv_has ls 2 [(0, .ref h0)] := hl
  refine lv_aload_n hx hb dX2_init_0 rfl (lv_at hl 0 rfl) ?_
  refine W.objInit hx hb hown (hts _ mX2_i_l) (hts _ mX2_i_i) (hts _ mX2_i_c) rfl (by rw [hml]; exact hl.1) rfl dX2_init_1 (Nat.le_of_ble_eq_true rfl) (Nat.le_of_ble_eq_true rfl) ?_
  refine W.eq (g2 := F0 m 4 ls []) rfl ?_
  refine lv_aload_n hx hb dX2_init_4 rfl (lv_at hl 0 rfl) ?_
  refine lv_bipush (v := 8) hx hb dX2_init_5 (by decide) ?_
  refine va_newq (N' := 8) hx hb hown (hts _ mX2_i_k) hNA.2.1 hK hP hD hS hA (by decide) (by decide) (by decide) (Nat.le_of_ble_eq_true rfl) (Nat.le_of_ble_eq_true rfl) dX2_init_7 (fun q cA H hK hP hD hS => ?_)
  refine va_putF (D := D) (ci := kX2) (v := .ref q) (ty := .array (.object "SaltRow$Pond")) (C := RX2) (T := TX2) (N := 5) hx hb hts iX2_i_X2 tyX2 tyX2_ok nmX2 hown hK hP hD hS 0 rfl kcX2 0 (by decide) (hts _ mX2_i_f) (fun _ h9 => h9) rfl hin rfl (by decide +kernel) rfl rfl (Nat.le_of_ble_eq_true rfl) dX2_init_10 (fun H locs hP hD hS => ?_)
  refine lv_iconst (v := 0) hx hb dX2_init_13 (by decide) ?_
  refine lv_istore_n (lv' := [(1, .int 0), (0, .ref h0)]) hx hb dX2_init_14 rfl hl (by decide) rfl (fun ls hl => ?_)
  have loop : ∀ (n : Nat) (L : List Nat) (H : Heap) (locs : List Loc) (ls : Array Slot), L.length + n = 8 → va_P D vwCl (sRW h0 q cA L) H → va_D (va_A (sR0 h0) s.heap.size) (sRW h0 q cA L) → va_S (va_A (sR0 h0) s.heap.size) s.heap H locs → lv_has ls 2 [(0, .ref h0), (1, .int (nI L.length))] →
      W p l e { frames := 2, cells := 9, slots := 104, locals := 32 } s m #[.ref h0] below meth c H locs (1 + L.length) (8 + 12 * L.length) (MQ below (sRQ D h0 s.heap.size) #[.ref h0] s 9 104 (va_A (sR0 h0) s.heap.size)) (F0 m 15 ls []) := by
    intro n
    induction n with
    | zero =>
      intro L H locs ls hn hP hD hS hl
      refine lv_iload_n hx hb dX2_init_15 rfl (lv_at hl 1 rfl) ?_
      refine lv_aload_n hx hb dX2_init_16 rfl (lv_at hl 0 rfl) ?_
      refine va_get (D := D) (ci := kX2) (v := .ref q) (C := RX2) (T := TX2) (N := 5) hx hb hts iX2_i_X2 hown hK hP 0 rfl kcX2 0 (by decide) (hts _ mX2_i_f) (fun _ h9 => h9) rfl dX2_init_17 ?_
      refine va_alen (v := 8) hx hb hK hP 1 0 rfl rfl rfl dX2_init_20 ?_
      refine lv_icmp_ge (tgt := 43) hx hb dX2_init_21 (by decide) (fun c1 => ?_) (fun c1 => absurd (by rw [show L.length = 8 by omega]; decide) c1)
      refine W.widen (k := 9) (n := 104) (by omega) (by omega) ?_
      exact W.vret hx hb hr (fun t ht hW => ⟨⟨(q, cA, L), rfl, (by show L.length = 8; omega), by rw [ht]; exact hP, va_K.moved hW.alike hK, hD⟩, hS.F ht⟩) hS.2.2 dX2_init_43 hlocks
    | succ n ih =>
      intro L H locs ls hn hP hD hS hl
      refine lv_iload_n hx hb dX2_init_15 rfl (lv_at hl 1 rfl) ?_
      refine lv_aload_n hx hb dX2_init_16 rfl (lv_at hl 0 rfl) ?_
      refine va_get (D := D) (ci := kX2) (v := .ref q) (C := RX2) (T := TX2) (N := 5) hx hb hts iX2_i_X2 hown hK hP 0 rfl kcX2 0 (by decide) (hts _ mX2_i_f) (fun _ h9 => h9) rfl dX2_init_17 ?_
      refine va_alen (v := 8) hx hb hK hP 1 0 rfl rfl rfl dX2_init_20 ?_
      refine lv_icmp_ge (tgt := 43) hx hb dX2_init_21 (by decide) (fun c1 => absurd c1 (nI_ge (a := L.length) (b := 8) (by omega) (by decide))) (fun c1 => ?_)
      refine lv_aload_n hx hb dX2_init_24 rfl (lv_at hl 0 rfl) ?_
      refine va_get (D := D) (ci := kX2) (v := .ref q) (C := RX2) (T := TX2) (N := 5) hx hb hts iX2_i_X2 hown hK hP 0 rfl kcX2 0 (by decide) (hts _ mX2_i_f) (fun _ h9 => h9) rfl dX2_init_25 ?_
      refine lv_iload_n hx hb dX2_init_28 rfl (lv_at hl 1 rfl) ?_
      refine va_new (ci := kX1) (fs := sPv (fun _ => 0)) (C := RX1) (T := TX1) (N := 12) hx hb hts iX2_i_X1 tyX1 tyX1_ok hown (hts _ mX2_i_k) (hts _ mX2_i_n) (hts _ mX2_i_z) hK hP hD hS hA kcX1 (fun j hj => by rcases (show j = 0 ∨ j = 1 ∨ j = 2 ∨ j = 3 ∨ j = 4 ∨ j = 5 ∨ j = 6 ∨ j = 7 ∨ j = 8 ∨ j = 9 ∨ j = 10 ∨ j = 11 by omega) with rfl | rfl | rfl | rfl | rfl | rfl | rfl | rfl | rfl | rfl | rfl | rfl <;> rfl) (by show 1 + L.length + 1 ≤ 9; omega) (by show 8 + 12 * L.length + 12 ≤ 104; omega) dX2_init_29 (fun x H hP hD hS => ?_)
      refine lv_dup hx hb dX2_init_32 rfl ?_
      have hP : va_P D vwCl (([(h0, sRE q), (q, .inl (cA, sQl L 8))] ++ [(x, .inr (kX1, sPv (fun _ => 0)))]) ++ sPl L) H := va_P.swap hP
      have hD : va_D (va_A (sR0 h0) s.heap.size) (([(h0, sRE q), (q, .inl (cA, sQl L 8))] ++ [(x, .inr (kX1, sPv (fun _ => 0)))]) ++ sPl L) := va_D.swap hD
      have hPc := hP.sub (ws' := [(x, .inr (kX1, sPv (fun _ => 0)))]) [2] rfl
      have hDc := hD.sub (ws' := [(x, .inr (kX1, sPv (fun _ => 0)))]) [2] (by decide) rfl
      have hKc := hK.sub (tys' := []) [] rfl
      have hFc := va_free (wc := [(x, .inr (kX1, sPv (fun _ => 0)))]) hD hS hA [2] rfl
      refine va_callv (va_runIN (As := []) (rest := [.ref x, .int (nI L.length), .ref q]) ⟨hx, hb, hml, hown, hts⟩ (zX1_init l D x H.size) ⟨va_cnB 0 hts gX2_init_X1_init_n17 rfl rfl rfl (sN_X2_X1_init hNA.1) (hts _ mX2_i_z) (by decide +kernel) ⟨Nat.le_of_ble_eq_true rfl, Nat.le_of_ble_eq_true rfl⟩, rfl, hts _ mX2_i_y⟩ ⟨fun v U g mk z => by obtain ⟨z0, z1, zP, zK, zD⟩ := z; exact ⟨z0, z1, zP, va_K.moved (u := U) (U := U.calling g mk v) (Vm.Alike.refl U.vm) zK, zD⟩, fun U hU hW => ⟨rfl, by rw [hU], by rw [hU]; exact hPc, va_K.moved hW.alike hKc, hDc.weaken (fun _ _ _ _ => trivial)⟩⟩ rfl rfl hl.1 rfl (lv_room (Nat.le_of_ble_eq_true rfl)) dX2_init_33 ⟨by show 1 + L.length + 1 + 0 ≤ 9; omega, by show 8 + 12 * L.length + 12 + 0 ≤ 104; omega⟩) hS (fun q _ h => hFc q h) hFc (fun u t H1 locs ht hvm hw hB hz1 hk1 hS => ?_)
      obtain ⟨hP1, hD1⟩ := hB
      rw [ht] at hP1
      obtain ⟨hP, hD⟩ := va_joinQ (X := [(h0, sRE q), (q, .inl (cA, sQl L 8)), (x, .inr (kX1, sPv (fun _ => 0)))]) (cx := [(x, .inr (kX1, sPv (fun _ => 0)))]) (wr := [(h0, sRE q), (q, .inl (cA, sQl L 8))]) (w1 := [(x, sPE)]) (pl := sPl L) hP hD [2] [0, 1] rfl rfl (by decide) (by decide) hk1 hFc hP1 hD1
      generalize H1 = H at hP hS ⊢
      refine va_astq (r := (RX1, TX1, 12)) (ci := kX1) (vs := sPv (upd (fun _ => 0) 0 3)) hx hb hK hP hD hS 1 0 2 rfl rfl rfl kcX1 (vp_in_nI (by omega) (by omega)) dX2_init_36 (fun H locs hP hD hS => ?_)
      rw [nI_clamp (by omega), sQl_up L 8 x] at hP hD
      have hP : va_P D vwCl (sRW h0 q cA (L ++ [x])) H := by
        have h2 := va_P.swap (a := [(h0, sRE q), (q, .inl (cA, sQl (L ++ [x]) 8))]) (b := [(x, sPE)]) (c := sPl L) hP
        rw [List.append_assoc, ← sPl_app] at h2
        exact h2
      have hD : va_D (va_A (sR0 h0) s.heap.size) (sRW h0 q cA (L ++ [x])) := by
        have h2 := va_D.swap (a := [(h0, sRE q), (q, .inl (cA, sQl (L ++ [x]) 8))]) (b := [(x, sPE)]) (c := sPl L) hD
        rw [List.append_assoc, ← sPl_app] at h2
        exact h2
      refine lv_iinc (v := nI (L ++ [x]).length) (lv' := [(1, .int (nI (L ++ [x]).length)), (0, .ref h0)]) hx hb dX2_init_37 hl (k := 1) rfl (by rw [List.length_append]; exact nI_1 L.length) (by decide) rfl (fun ls hl => ?_)
      refine lv_goto (tgt := 15) hx hb dX2_init_40 (by decide) ?_
      refine W.widen (k := 1 + (L ++ [x]).length) (n := 8 + 12 * (L ++ [x]).length) (by rw [List.length_append]; show 1 + L.length + 1 + 0 ≤ 1 + (L.length + 1); omega) (by rw [List.length_append]; show 8 + 12 * L.length + 12 + 0 ≤ 8 + 12 * (L.length + 1); omega) ?_
      exact ih (L ++ [x]) H locs ls (by rw [List.length_append]; show L.length + 1 + n = 8; omega) hP hD hS (lv_sub hl [1, 0] rfl)
  have e0 : (fun _ : Nat => (none : Option Nat)) = (fun j => ([] : List Nat)[j]?) := by funext j; simp
  refine W.widen (k := 1 + ([] : List Nat).length) (n := 8 + 12 * ([] : List Nat).length) (by decide) (by decide) ?_
  refine loop 8 [] H locs ls (by decide) ?_ ?_ hS (lv_sub hl [1, 0] rfl)
  · rw [e0] at hP; exact hP
  · rw [e0] at hD; exact hD
end
section
/-! Family(), SaltRow(): the whole world made -/
abbrev sF0 (h0 : Nat) : va_W := [(h0, .inr (kX0, [.null, .int 0, .int 0, .int 0, .int 0, .int 0]))]
abbrev sFE (r : Nat) : va_E := .inr (kX0, [.ref r, .int 0, .int 0, .int 0, .int 0, .int 0])
abbrev sIE (cI : ClassId) : va_E := .inl (cI, 3, .inl (fun _ => 0))
theorem mX0_i_l : Cond.methodLink RX0 3 objectInit ∈ wsX0_init := by decide +kernel
theorem mX0_i_i : Cond.instanceMethod objectInit ∈ wsX0_init := by decide +kernel
theorem mX0_i_c : Cond.code objectInit ⟨#[0xb1]⟩ 1 none ∈ wsX0_init := by decide +kernel
theorem mX0_i_a : Cond.arrayClass .int ∈ wsX0_init := by decide +kernel
theorem mX0_i_f : Cond.fieldLink RX0 9 "SaltRow$Family" "rights" "[I" ∈ wsX0_init := by decide +kernel
theorem iX0_i_X0 : ∀ w ∈ wsX00, w ∈ wsX0_init := by decide +kernel
set_option maxHeartbeats 4000000 in
set_option maxRecDepth 100000 in
/-- Family(): a row of three numbers comes -/
theorem zX0_init (l : Launch) (D : va_G) (h0 sz : Nat) : Met l yX0_init wsX0_init ({ frames := 1, cells := 1, slots := 3, locals := 12 }) (va_Pc [.ref h0] (fun U => U.heap.size = sz ∧ va_P D vwCl (sF0 h0) U.heap ∧ va_K D vwCl [] U ∧ va_D (fun _ => True) (sF0 h0))) (va_Qv (fun (_ : Nat × ClassId) => True) (fun u t => va_P D vwCl [(h0, sFE u.1), (u.1, sIE u.2)] t.heap ∧ va_K D vwCl [(u.2, .int)] t ∧ va_D (va_A (sF0 h0) sz) [(h0, sFE u.1), (u.1, sIE u.2)]) (va_A (sF0 h0) sz)) 1 3 (va_A (sF0 h0) sz) := by
  refine Met.ofW (cc := cX0_init) (maxL := 1) (ret := none) (by decide) rfl ?_
  intro p e s m args below meth c s₁ B hml hv
  obtain ⟨rfl, hsz, hP, hK, hD0⟩ := hv
  have hx := B.exec
  have hb := B.bytes
  have hr := B.returns
  have hts := atoms_spec (ws := wsX0_init) B.pre
  have hown : s.vm.findClass RX0 = some m.cls := findClass_of_methodNamed B.named
  have hlocks := B.notSynchronized
  have hin : meth.name = "<init>" := (name_of_methodNamed B.named B.method).1
  subst hsz
  have hD := hD0.self (sz := s.heap.size)
  have hA : ∀ q : Nat, s.heap.size ≤ q → (va_A (sF0 h0) s.heap.size) q := fun q h => Or.inr h
  have hS : va_S (va_A (sF0 h0) s.heap.size) s.heap s.heap [] := va_S.rf
  have hl := lv_entry ([.ref h0]) (n := 1) (Nat.le_of_ble_eq_true rfl)
  rw [lg_entry_eq]
  generalize (lg_sl ([.ref h0]) ++ List.replicate (1 - (lg_sl ([.ref h0])).length) Slot.unset).toArray = ls at hl ⊢
  have hl : lv_has ls 1 [(0, .ref h0)] := hl
  refine lv_aload_n hx hb dX0_init_0 rfl (lv_at hl 0 rfl) ?_
  refine W.objInit hx hb hown (hts _ mX0_i_l) (hts _ mX0_i_i) (hts _ mX0_i_c) rfl (by rw [hml]; exact hl.1) rfl dX0_init_1 (Nat.le_of_ble_eq_true rfl) (Nat.le_of_ble_eq_true rfl) ?_
  refine W.eq (g2 := F0 m 4 ls []) rfl ?_
  refine lv_aload_n hx hb dX0_init_4 rfl (lv_at hl 0 rfl) ?_
  refine lv_iconst (v := 3) hx hb dX0_init_5 (by decide) ?_
  refine va_newa (atype := .int) (ty := .int) (N' := 3) (a0 := (3, .inl (fun _ => 0))) hx hb (hts _ mX0_i_a) rfl hK hP hD hS hA (fun cA => rfl) (by decide) (by decide) (by decide) (Nat.le_of_ble_eq_true rfl) (Nat.le_of_ble_eq_true rfl) dX0_init_6 (fun q cA H hK hP hD hS => ?_)
  refine va_putF (D := D) (ci := kX0) (v := .ref q) (ty := .array .int) (C := RX0) (T := TX0) (N := 6) hx hb hts iX0_i_X0 tyX0 tyX0_ok nmX0 hown hK hP hD hS 0 rfl kcX0 0 (by decide) (hts _ mX0_i_f) (fun _ h9 => h9) rfl hin rfl (by decide +kernel) rfl rfl (Nat.le_of_ble_eq_true rfl) dX0_init_8 (fun H locs hP hD hS => ?_)
  exact W.vret hx hb hr (fun t ht hW => ⟨⟨(q, cA), rfl, trivial, by rw [ht]; exact hP, va_K.moved hW.alike hK, hD⟩, hS.F ht⟩) hS.2.2 dX0_init_11 hlocks
/-- one class of arrays of a type -/
theorem va_K_one {D : va_G} {cl : List vw_C} {t1 t2 : List (ClassId × FieldType)} {U : State} {i j : Nat} {c1 c2 : ClassId} {ty : FieldType} (h1 : va_K D cl t1 U) (h2 : va_K D cl t2 U) (e1 : t1[i]? = some (c1, ty)) (e2 : t2[j]? = some (c2, ty)) : c1 = c2 := by
  have a1 := (h1.2 i _ e1).2
  have a2 := (h2.2 j _ e2).2
  cases ty with
  | object C =>
    obtain ⟨_, _, _, _, _, f1⟩ := a1
    obtain ⟨_, _, _, _, _, f2⟩ := a2
    exact Option.some.inj (f1.symm.trans f2)
  | _ => exact Option.some.inj (a1.symm.trans a2)
theorem va_D_fst {A : Nat → Prop} {w w' : va_W} (h : va_D A w) (e : w.map Prod.fst = w'.map Prod.fst) : va_D A w' := by
  have key : ∀ (k : Nat) (q : Nat × va_E), w'[k]? = some q → ∃ q0, w[k]? = some q0 ∧ q0.1 = q.1 := by
    intro k q hk
    have h1 : (w.map Prod.fst)[k]? = some q.1 := by rw [e, List.getElem?_map, hk]; rfl
    rw [List.getElem?_map] at h1
    cases hw : w[k]? with
    | none => rw [hw] at h1; cases h1
    | some q0 => rw [hw] at h1; exact ⟨q0, rfl, Option.some.inj h1⟩
  refine ⟨fun i j x y hi hj hxy => ?_, fun k q hk => ?_⟩
  · obtain ⟨x0, h1, h2⟩ := key i x hi
    obtain ⟨y0, h3, h4⟩ := key j y hj
    exact h.1 i j x0 y0 h1 h3 (h2.trans (hxy.trans h4.symm))
  · obtain ⟨q0, h1, h2⟩ := key k q hk
    rw [← h2]
    exact h.2 k q0 h1
theorem sQ_cell {c : ClassId} {n : Nat} {f g : Nat → Option Nat} (h : ∀ j, j < n → f j = g j) : vp_cell c (n, .inr (.inr (.inr (.inr f)))) = vp_cell c (n, .inr (.inr (.inr (.inr g)))) := by
  rw [vp_cell_q, vp_cell_q]
  unfold arrV
  congr 1
  congr 1
  funext j
  show va_rf (f j.val) = va_rf (g j.val)
  rw [h j.val j.isLt]
theorem len8 {L : List Nat} (h : L.length = 8) : ∃ x0 x1 x2 x3 x4 x5 x6 x7, L = [x0, x1, x2, x3, x4, x5, x6, x7] := by
  match L, h with
  | [x0, x1, x2, x3, x4, x5, x6, x7], _ => exact ⟨x0, x1, x2, x3, x4, x5, x6, x7, rfl⟩
theorem len6 {L : List (Nat × Nat)} (h : L.length = 6) : ∃ x0 x1 x2 x3 x4 x5, L = [x0, x1, x2, x3, x4, x5] := by
  match L, h with
  | [x0, x1, x2, x3, x4, x5], _ => exact ⟨x0, x1, x2, x3, x4, x5, rfl⟩
/-- a new object's numbers -/
def f_new : sS := fun i k => if 5 ≤ i ∧ i < 21 ∧ k = 0 then 3 else 0
def sFp (cI : ClassId) (F : List (Nat × Nat)) : va_W := F.flatMap (fun x => [(x.1, sFE x.2), (x.2, sIE cI)])
theorem sFp_app (cI : ClassId) (F : List (Nat × Nat)) (x : Nat × Nat) : sFp cI (F ++ [x]) = sFp cI F ++ [(x.1, sFE x.2), (x.2, sIE cI)] := by simp [sFp]
/-- the six fixed cells of the walk -/
abbrev sX6 (h0 r0 q0 r1 q1 g : Nat) (cP cG : ClassId) (L0 L1 : List Nat) (F : List (Nat × Nat)) : va_W := [(h0, .inr (kX3, [.ref r0, .ref r1, .ref g, .int 0, .int 0, .int 0, .int 0, .int 0, .int 0, .int 0])), (r0, sRE q0), (q0, .inl (cP, sQl L0 8)), (r1, sRE q1), (q1, .inl (cP, sQl L1 8)), (g, .inl (cG, sQl (F.map Prod.fst) 6))]
theorem sW_made {D : va_G} {A : Nat → Prop} {H : Heap} {h0 r0 q0 r1 q1 g : Nat} {cP cG cI : ClassId} {L0 L1 : List Nat} {F : List (Nat × Nat)} (h8 : L0.length = 8) (h9 : L1.length = 8) (h6 : F.length = 6)
    (hP : va_P D vwCl (sX6 h0 r0 q0 r1 q1 g cP cG L0 L1 F ++ ((sPl L1 ++ sPl L0) ++ sFp cI F)) H) (hD : va_D A (sX6 h0 r0 q0 r1 q1 g cP cG L0 L1 F ++ ((sPl L1 ++ sPl L0) ++ sFp cI F))) :
    ∃ (a : Nat → Nat), a 0 = h0 ∧ va_P D vwCl (sW a (fun k => if k = 0 then cP else if k = 1 then cG else cI) f_new) H ∧ va_D A (sW a (fun k => if k = 0 then cP else if k = 1 then cG else cI) f_new) := by
  obtain ⟨x0, x1, x2, x3, x4, x5, x6, x7, rfl⟩ := len8 h8
  obtain ⟨y0, y1, y2, y3, y4, y5, y6, y7, rfl⟩ := len8 h9
  obtain ⟨⟨f0, z0⟩, ⟨f1, z1⟩, ⟨f2, z2⟩, ⟨f3, z3⟩, ⟨f4, z4⟩, ⟨f5, z5⟩, rfl⟩ := len6 h6
  obtain ⟨a, ha⟩ : ∃ a : Nat → Nat, a = fun i => [h0, r0, r1, q0, q1, x0, x1, x2, x3, x4, x5, x6, x7, y0, y1, y2, y3, y4, y5, y6, y7, g, f0, f1, f2, f3, f4, f5, z0, z1, z2, z3, z4, z5].getD i 0 := ⟨_, rfl⟩
  have hP2 := hP.sub (ws' := _) [0, 1, 3, 2, 4, 14, 15, 16, 17, 18, 19, 20, 21, 6, 7, 8, 9, 10, 11, 12, 13, 5, 22, 24, 26, 28, 30, 32, 23, 25, 27, 29, 31, 33] rfl
  have hD2 := hD.sub (ws' := [(h0, .inr (kX3, [.ref r0, .ref r1, .ref g, .int 0, .int 0, .int 0, .int 0, .int 0, .int 0, .int 0])), (r0, sRE q0), (r1, sRE q1), (q0, .inl (cP, sQl [x0, x1, x2, x3, x4, x5, x6, x7] 8)), (q1, .inl (cP, sQl [y0, y1, y2, y3, y4, y5, y6, y7] 8)), (x0, sPE), (x1, sPE), (x2, sPE), (x3, sPE), (x4, sPE), (x5, sPE), (x6, sPE), (x7, sPE), (y0, sPE), (y1, sPE), (y2, sPE), (y3, sPE), (y4, sPE), (y5, sPE), (y6, sPE), (y7, sPE), (g, .inl (cG, sQl [f0, f1, f2, f3, f4, f5] 6)), (f0, sFE z0), (f1, sFE z1), (f2, sFE z2), (f3, sFE z3), (f4, sFE z4), (f5, sFE z5), (z0, sIE cI), (z1, sIE cI), (z2, sIE cI), (z3, sIE cI), (z4, sIE cI), (z5, sIE cI)]) [0, 1, 3, 2, 4, 14, 15, 16, 17, 18, 19, 20, 21, 6, 7, 8, 9, 10, 11, 12, 13, 5, 22, 24, 26, 28, 30, 32, 23, 25, 27, 29, 31, 33] (by decide) rfl
  refine ⟨a, by rw [ha]; rfl, ?_, va_D_fst hD2 (by rw [ha]; rfl)⟩
  intro k q hk
  obtain ⟨hi, rfl⟩ := sW_inv hk
  rw [ha]
  match k, hi with
  | 0, _ => exact hP2 0 _ rfl
  | 1, _ => exact hP2 1 _ rfl
  | 2, _ => exact hP2 2 _ rfl
  | 3, _ => exact (hP2 3 _ rfl).trans (congrArg some (sQ_cell (fun j hj => by rcases (show j = 0 ∨ j = 1 ∨ j = 2 ∨ j = 3 ∨ j = 4 ∨ j = 5 ∨ j = 6 ∨ j = 7 by omega) with rfl | rfl | rfl | rfl | rfl | rfl | rfl | rfl <;> rfl)))
  | 4, _ => exact (hP2 4 _ rfl).trans (congrArg some (sQ_cell (fun j hj => by rcases (show j = 0 ∨ j = 1 ∨ j = 2 ∨ j = 3 ∨ j = 4 ∨ j = 5 ∨ j = 6 ∨ j = 7 by omega) with rfl | rfl | rfl | rfl | rfl | rfl | rfl | rfl <;> rfl)))
  | 5, _ => exact hP2 5 _ rfl
  | 6, _ => exact hP2 6 _ rfl
  | 7, _ => exact hP2 7 _ rfl
  | 8, _ => exact hP2 8 _ rfl
  | 9, _ => exact hP2 9 _ rfl
  | 10, _ => exact hP2 10 _ rfl
  | 11, _ => exact hP2 11 _ rfl
  | 12, _ => exact hP2 12 _ rfl
  | 13, _ => exact hP2 13 _ rfl
  | 14, _ => exact hP2 14 _ rfl
  | 15, _ => exact hP2 15 _ rfl
  | 16, _ => exact hP2 16 _ rfl
  | 17, _ => exact hP2 17 _ rfl
  | 18, _ => exact hP2 18 _ rfl
  | 19, _ => exact hP2 19 _ rfl
  | 20, _ => exact hP2 20 _ rfl
  | 21, _ => exact (hP2 21 _ rfl).trans (congrArg some (sQ_cell (fun j hj => by rcases (show j = 0 ∨ j = 1 ∨ j = 2 ∨ j = 3 ∨ j = 4 ∨ j = 5 by omega) with rfl | rfl | rfl | rfl | rfl | rfl <;> rfl)))
  | 22, _ => exact hP2 22 _ rfl
  | 23, _ => exact hP2 23 _ rfl
  | 24, _ => exact hP2 24 _ rfl
  | 25, _ => exact hP2 25 _ rfl
  | 26, _ => exact hP2 26 _ rfl
  | 27, _ => exact hP2 27 _ rfl
  | 28, _ => exact hP2 28 _ rfl
  | 29, _ => exact hP2 29 _ rfl
  | 30, _ => exact hP2 30 _ rfl
  | 31, _ => exact hP2 31 _ rfl
  | 32, _ => exact hP2 32 _ rfl
  | 33, _ => exact hP2 33 _ rfl
end
section
/-! SaltRow() -/
abbrev sO0 (h0 : Nat) : va_W := [(h0, .inr (kX3, [.null, .null, .null, .int 0, .int 0, .int 0, .int 0, .int 0, .int 0, .int 0]))]
abbrev sOE (x y z : Value) : va_E := .inr (kX3, [x, y, z, .int 0, .int 0, .int 0, .int 0, .int 0, .int 0, .int 0])
theorem mX3_i_l : Cond.methodLink RX3 1 objectInit ∈ wsX3_init := by decide +kernel
theorem mX3_i_i : Cond.instanceMethod objectInit ∈ wsX3_init := by decide +kernel
theorem mX3_i_c : Cond.code objectInit ⟨#[0xb1]⟩ 1 none ∈ wsX3_init := by decide +kernel
theorem mX3_i_k2 : Cond.classLink RX3 7 RX2 ∈ wsX3_init := by decide +kernel
theorem mX3_i_n2 : Cond.instantiable RX2 5 ∈ wsX3_init := by decide +kernel
theorem mX3_i_z2 : Cond.initialized RX2 ∈ wsX3_init := by decide +kernel
theorem mX3_i_m2 : Cond.methodLink RX3 9 yX2_init ∈ wsX3_init := by decide +kernel
theorem mX3_i_y2 : Cond.instanceMethod yX2_init ∈ wsX3_init := by decide +kernel
theorem mX3_i_f0 : Cond.fieldLink RX3 10 "SaltRow" "row" "LSaltRow$Row;" ∈ wsX3_init := by decide +kernel
theorem mX3_i_f1 : Cond.fieldLink RX3 16 "SaltRow" "trial" "LSaltRow$Row;" ∈ wsX3_init := by decide +kernel
theorem mX3_i_f2 : Cond.fieldLink RX3 21 "SaltRow" "families" "[LSaltRow$Family;" ∈ wsX3_init := by decide +kernel
theorem mX3_i_k0 : Cond.classLink RX3 19 RX0 ∈ wsX3_init := by decide +kernel
theorem mX3_i_n0 : Cond.instantiable RX0 6 ∈ wsX3_init := by decide +kernel
theorem mX3_i_z0 : Cond.initialized RX0 ∈ wsX3_init := by decide +kernel
theorem mX3_i_y0 : Cond.instanceMethod yX0_init ∈ wsX3_init := by decide +kernel
theorem mX3_i_a : Cond.arrayClass .int ∈ wsX3_init := by decide +kernel
theorem iX3_i_X3 : ∀ w ∈ wsX30, w ∈ wsX3_init := by decide +kernel
theorem iX3_i_X2 : ∀ w ∈ wsX20, w ∈ wsX3_init := by decide +kernel
theorem iX3_i_X0 : ∀ w ∈ wsX00, w ∈ wsX3_init := by decide +kernel
theorem sFp_fst (F : List (Nat × Nat)) (x : Nat × Nat) : va_up (fun j => (F.map Prod.fst)[j]?) F.length (some x.1) = (fun j => ((F ++ [x]).map Prod.fst)[j]?) := by
  have h := sQl_up (F.map Prod.fst) 0 x.1
  rw [List.length_map] at h
  rw [h, List.map_append]
  rfl
def sNewQ (D : va_G) (h0 sz : Nat) : Array Value → State → Outcome → State → Prop := va_Qv (fun (u : (Nat → Nat) × (Nat → ClassId)) => u.1 0 = h0) (fun u t => va_P D vwCl (sW u.1 u.2 f_new) t.heap ∧ va_K D vwCl (sT u.2) t ∧ va_D (va_A (sO0 h0) sz) (sW u.1 u.2 f_new)) (va_A (sO0 h0) sz)
set_option maxHeartbeats 8000000 in
set_option maxRecDepth 100000 in
/-- SaltRow(): 33 cells come -/
theorem zX3_init (l : Launch) (D : va_G) (h0 sz : Nat) : Met l yX3_init wsX3_init ({ frames := 3, cells := 33, slots := 278, locals := 53 }) (va_Pc [.ref h0] (fun U => U.heap.size = sz ∧ va_P D vwCl (sO0 h0) U.heap ∧ va_K D vwCl [] U ∧ va_D (fun _ => True) (sO0 h0) ∧ sNA U)) (sNewQ D h0 sz) 33 278 (va_A (sO0 h0) sz) := by
  refine Met.ofW (cc := cX3_init) (maxL := 2) (ret := none) (by decide) rfl ?_
  intro p e s m args below meth c s₁ B hml hv
  obtain ⟨rfl, hsz, hP, hK, hD0, hNA⟩ := hv
  have hx := B.exec
  have hb := B.bytes
  have hr := B.returns
  have hts := atoms_spec (ws := wsX3_init) B.pre
  have hown : s.vm.findClass RX3 = some m.cls := findClass_of_methodNamed B.named
  have hlocks := B.notSynchronized
  have hin : meth.name = "<init>" := (name_of_methodNamed B.named B.method).1
  subst hsz
  have hD := hD0.self (sz := s.heap.size)
  have hA : ∀ q : Nat, s.heap.size ≤ q → (va_A (sO0 h0) s.heap.size) q := fun q h => Or.inr h
  have hS : va_S (va_A (sO0 h0) s.heap.size) s.heap s.heap [] := va_S.rf
  obtain ⟨cI, hKI⟩ : ∃ cI : ClassId, va_K D vwCl [(cI, .int)] s := by
    obtain ⟨cA, kA, comp, h1, h2, h3⟩ := Cond.arrayClass_spec (hts _ mX3_i_a)
    refine ⟨cA, hK.1, fun k x hx => ?_⟩
    have hz : k < 1 := (List.getElem?_eq_some_iff.mp hx).1
    rw [show k = 0 by omega] at hx
    cases hx
    exact ⟨fun n z => ⟨fun k h => (by cases h), kA, h2, comp, h3⟩, h1⟩
  have hl := lv_entry ([.ref h0]) (n := 2) (Nat.le_of_ble_eq_true rfl)
  rw [lg_entry_eq]
  generalize (lg_sl ([.ref h0]) ++ List.replicate (2 - (lg_sl ([.ref h0])).length) Slot.unset).toArray = ls at hl ⊢
  have hl : lv_has ls 2 [(0, .ref h0)] := hl
  refine lv_aload_n hx hb dX3_init_0 rfl (lv_at hl 0 rfl) ?_
  refine W.objInit hx hb hown (hts _ mX3_i_l) (hts _ mX3_i_i) (hts _ mX3_i_c) rfl (by rw [hml]; exact hl.1) rfl dX3_init_1 (Nat.le_of_ble_eq_true rfl) (Nat.le_of_ble_eq_true rfl) ?_
  refine W.eq (g2 := F0 m 4 ls []) rfl ?_
  -- the row
  refine lv_aload_n hx hb dX3_init_4 rfl (lv_at hl 0 rfl) ?_
  refine va_new (ci := kX2) (fs := [.null, .int 0, .int 0, .int 0, .int 0]) (C := RX2) (T := TX2) (N := 5) hx hb hts iX3_i_X2 tyX2 tyX2_ok hown (hts _ mX3_i_k2) (hts _ mX3_i_n2) (hts _ mX3_i_z2) hK hP hD hS hA kcX2 (fun j hj => by rcases (show j = 0 ∨ j = 1 ∨ j = 2 ∨ j = 3 ∨ j = 4 by omega) with rfl | rfl | rfl | rfl | rfl <;> rfl) (Nat.le_of_ble_eq_true rfl) (Nat.le_of_ble_eq_true rfl) dX3_init_5 (fun r0 H hP hD hS => ?_)
  refine lv_dup hx hb dX3_init_8 rfl ?_
  have hPc := hP.sub (ws' := sR0 r0) [1] rfl
  have hDc := hD.sub (ws' := sR0 r0) [1] (by decide) rfl
  have hKc := hK.sub (tys' := []) [] rfl
  have hFc := va_free (wc := sR0 r0) hD hS hA [1] rfl
  refine va_callv (va_runI (As := []) (rest := [.ref r0, .ref h0]) ⟨hx, hb, hml, hown, hts⟩ (zX2_init l D r0 H.size) (cwI 0 hts gX3_init_X2_init rfl rfl rfl (hts _ mX3_i_z2) (hts _ mX3_i_m2) (hts _ mX3_i_y2) rfl (by decide +kernel) ⟨Nat.le_of_ble_eq_true rfl, Nat.le_of_ble_eq_true rfl⟩) ⟨fun v U g mk z => by obtain ⟨z0, z1, zP, zK, zD, zN⟩ := z; exact ⟨z0, z1, zP, va_K.moved (u := U) (U := U.calling g mk v) (Vm.Alike.refl U.vm) zK, zD, sNA_calling zN⟩, fun U hU hW => ⟨rfl, by rw [hU], by rw [hU]; exact hPc, va_K.moved hW.alike hKc, hDc.weaken (fun _ _ _ _ => trivial), sNA_warm hW hNA⟩⟩ rfl rfl hl.1 rfl (lv_room (Nat.le_of_ble_eq_true rfl)) dX3_init_9 ⟨Nat.le_of_ble_eq_true rfl, Nat.le_of_ble_eq_true rfl⟩) hS (fun q _ h => hFc q h) hFc (fun u t H1 locs ht hvm hw hB hz1 hk1 hS => ?_)
  obtain ⟨q0, cP, L0⟩ := u
  have hL0 : L0.length = 8 := hw
  obtain ⟨hP1, hK1, hD1⟩ := hB
  rw [ht] at hP1
  have hKP := va_K.moved hvm.symm hK1
  obtain ⟨hP, hD⟩ := va_join (wr := [(h0, sOE .null .null .null)]) (w1 := sRW r0 q0 cP L0) hP hD [1] [0] rfl rfl (by decide) (by decide) hk1 hFc hP1 hD1
  clear hP1 hD1 hK1
  generalize H1 = H at hP hS ⊢
  refine va_putF (D := D) (ci := kX3) (v := .ref r0) (ty := .object "SaltRow$Row") (C := RX3) (T := TX3) (N := 10) hx hb hts iX3_i_X3 tyX3 tyX3_ok nmX3 hown hK hP hD hS 0 rfl kcX3 0 (by decide) (hts _ mX3_i_f0) (fun _ h9 => h9) rfl hin rfl (by decide +kernel) rfl rfl (Nat.le_of_ble_eq_true rfl) dX3_init_12 (fun H locs hP hD hS => ?_)
  have hP : va_P D vwCl ([(h0, sOE (.ref r0) .null .null), (r0, sRE q0), (q0, .inl (cP, sQl L0 8))] ++ sPl L0) H := hP
  have hD : va_D (va_A (sO0 h0) s.heap.size) ([(h0, sOE (.ref r0) .null .null), (r0, sRE q0), (q0, .inl (cP, sQl L0 8))] ++ sPl L0) := hD
  -- the other row
  refine lv_aload_n hx hb dX3_init_15 rfl (lv_at hl 0 rfl) ?_
  refine va_new (ci := kX2) (fs := [.null, .int 0, .int 0, .int 0, .int 0]) (C := RX2) (T := TX2) (N := 5) hx hb hts iX3_i_X2 tyX2 tyX2_ok hown (hts _ mX3_i_k2) (hts _ mX3_i_n2) (hts _ mX3_i_z2) hK hP hD hS hA kcX2 (fun j hj => by rcases (show j = 0 ∨ j = 1 ∨ j = 2 ∨ j = 3 ∨ j = 4 by omega) with rfl | rfl | rfl | rfl | rfl <;> rfl) (Nat.le_of_ble_eq_true rfl) (Nat.le_of_ble_eq_true rfl) dX3_init_16 (fun r1 H hP hD hS => ?_)
  refine lv_dup hx hb dX3_init_19 rfl ?_
  have hP := va_P.swap hP
  have hD := va_D.swap hD
  have hPc := hP.sub (ws' := sR0 r1) [3] rfl
  have hDc := hD.sub (ws' := sR0 r1) [3] (by decide) rfl
  have hFc := va_free (wc := sR0 r1) hD hS hA [3] rfl
  refine va_callv (va_runI (As := []) (rest := [.ref r1, .ref h0]) ⟨hx, hb, hml, hown, hts⟩ (zX2_init l D r1 H.size) (cwI 0 hts gX3_init_X2_init rfl rfl rfl (hts _ mX3_i_z2) (hts _ mX3_i_m2) (hts _ mX3_i_y2) rfl (by decide +kernel) ⟨Nat.le_of_ble_eq_true rfl, Nat.le_of_ble_eq_true rfl⟩) ⟨fun v U g mk z => by obtain ⟨z0, z1, zP, zK, zD, zN⟩ := z; exact ⟨z0, z1, zP, va_K.moved (u := U) (U := U.calling g mk v) (Vm.Alike.refl U.vm) zK, zD, sNA_calling zN⟩, fun U hU hW => ⟨rfl, by rw [hU], by rw [hU]; exact hPc, va_K.moved hW.alike hKc, hDc.weaken (fun _ _ _ _ => trivial), sNA_warm hW hNA⟩⟩ rfl rfl hl.1 rfl (lv_room (Nat.le_of_ble_eq_true rfl)) dX3_init_20 ⟨Nat.le_of_ble_eq_true rfl, Nat.le_of_ble_eq_true rfl⟩) hS (fun q _ h => hFc q h) hFc (fun u t H1 locs ht hvm hw hB hz1 hk1 hS => ?_)
  obtain ⟨q1, cP', L1⟩ := u
  have hL1 : L1.length = 8 := hw
  obtain ⟨hP1, hK1, hD1⟩ := hB
  rw [ht] at hP1
  obtain rfl : cP' = cP := va_K_one (va_K.moved hvm.symm hK1) hKP (i := 0) (j := 0) rfl rfl
  obtain ⟨hP, hD⟩ := va_joinQ (X := [(h0, sOE (.ref r0) .null .null), (r0, sRE q0), (q0, .inl (cP', sQl L0 8)), (r1, .inr (kX2, [.null, .int 0, .int 0, .int 0, .int 0]))]) (cx := sR0 r1) (wr := [(h0, sOE (.ref r0) .null .null), (r0, sRE q0), (q0, .inl (cP', sQl L0 8))]) (w1 := sRW r1 q1 cP' L1) (pl := sPl L0) hP hD [3] [0, 1, 2] rfl rfl (by decide) (by decide) hk1 hFc hP1 hD1
  generalize H1 = H at hP hS ⊢
  have hP : va_P D vwCl ([(h0, sOE (.ref r0) .null .null), (r0, sRE q0), (q0, .inl (cP', sQl L0 8)), (r1, sRE q1), (q1, .inl (cP', sQl L1 8))] ++ (sPl L1 ++ sPl L0)) H := hP
  have hD : va_D (va_A (sO0 h0) s.heap.size) ([(h0, sOE (.ref r0) .null .null), (r0, sRE q0), (q0, .inl (cP', sQl L0 8)), (r1, sRE q1), (q1, .inl (cP', sQl L1 8))] ++ (sPl L1 ++ sPl L0)) := hD
  refine va_putF (D := D) (ci := kX3) (v := .ref r1) (ty := .object "SaltRow$Row") (C := RX3) (T := TX3) (N := 10) hx hb hts iX3_i_X3 tyX3 tyX3_ok nmX3 hown hK hP hD hS 0 rfl kcX3 1 (by decide) (hts _ mX3_i_f1) (fun _ h9 => h9) rfl hin rfl (by decide +kernel) rfl rfl (Nat.le_of_ble_eq_true rfl) dX3_init_23 (fun H locs hP hD hS => ?_)
  -- the families
  refine lv_aload_n hx hb dX3_init_26 rfl (lv_at hl 0 rfl) ?_
  refine lv_bipush (v := 6) hx hb dX3_init_27 (by decide) ?_
  refine va_newq (N' := 6) hx hb hown (hts _ mX3_i_k0) hNA.2.2 hKI hP hD hS hA (by decide) (by decide) (by decide) (Nat.le_of_ble_eq_true rfl) (Nat.le_of_ble_eq_true rfl) dX3_init_29 (fun g cG H hK hP hD hS => ?_)
  refine va_putF (D := D) (ci := kX3) (v := .ref g) (ty := .array (.object "SaltRow$Family")) (C := RX3) (T := TX3) (N := 10) hx hb hts iX3_i_X3 tyX3 tyX3_ok nmX3 hown hK hP hD hS 0 rfl kcX3 2 (by decide) (hts _ mX3_i_f2) (fun _ h9 => h9) rfl hin rfl (by decide +kernel) rfl rfl (Nat.le_of_ble_eq_true rfl) dX3_init_32 (fun H locs hP hD hS => ?_)
  have hP := va_P.swap (a := [(h0, sOE (.ref r0) (.ref r1) (.ref g)), (r0, sRE q0), (q0, .inl (cP', sQl L0 8)), (r1, sRE q1), (q1, .inl (cP', sQl L1 8))]) (b := sPl L1 ++ sPl L0) (c := [(g, .inl (cG, 6, .inr (.inr (.inr (.inr (fun _ => none))))))]) hP
  have hD := va_D.swap (a := [(h0, sOE (.ref r0) (.ref r1) (.ref g)), (r0, sRE q0), (q0, .inl (cP', sQl L0 8)), (r1, sRE q1), (q1, .inl (cP', sQl L1 8))]) (b := sPl L1 ++ sPl L0) (c := [(g, .inl (cG, 6, .inr (.inr (.inr (.inr (fun _ => none))))))]) hD
  refine lv_iconst (v := 0) hx hb dX3_init_35 (by decide) ?_
  refine lv_istore_n (lv' := [(1, .int 0), (0, .ref h0)]) hx hb dX3_init_36 rfl hl (by decide) rfl (fun ls hl => ?_)
  have loop : ∀ (n : Nat) (F : List (Nat × Nat)) (H : Heap) (locs : List Loc) (ls : Array Slot), F.length + n = 6 → va_P D vwCl (sX6 h0 r0 q0 r1 q1 g cP' cG L0 L1 F ++ ((sPl L1 ++ sPl L0) ++ sFp cI F)) H → va_D (va_A (sO0 h0) s.heap.size) (sX6 h0 r0 q0 r1 q1 g cP' cG L0 L1 F ++ ((sPl L1 ++ sPl L0) ++ sFp cI F)) → va_S (va_A (sO0 h0) s.heap.size) s.heap H locs → lv_has ls 2 [(0, .ref h0), (1, .int (nI F.length))] →
      W p l e { frames := 3, cells := 33, slots := 278, locals := 53 } s m #[.ref h0] below meth c H locs (21 + 2 * F.length) (224 + 9 * F.length) (MQ below (sNewQ D h0 s.heap.size) #[.ref h0] s 33 278 (va_A (sO0 h0) s.heap.size)) (F0 m 37 ls []) := by
    intro n
    induction n with
    | zero =>
      intro F H locs ls hn hP hD hS hl
      refine lv_iload_n hx hb dX3_init_37 rfl (lv_at hl 1 rfl) ?_
      refine lv_aload_n hx hb dX3_init_38 rfl (lv_at hl 0 rfl) ?_
      refine va_get (D := D) (ci := kX3) (v := .ref g) (C := RX3) (T := TX3) (N := 10) hx hb hts iX3_i_X3 hown hK hP 0 rfl kcX3 2 (by decide) (hts _ mX3_i_f2) (fun _ h9 => h9) rfl dX3_init_39 ?_
      refine va_alen (v := 6) hx hb hK hP 5 1 rfl rfl rfl dX3_init_42 ?_
      refine lv_icmp_ge (tgt := 65) hx hb dX3_init_43 (by decide) (fun c1 => ?_) (fun c1 => absurd (by rw [show F.length = 6 by omega]; decide) c1)
      refine W.widen (k := 33) (n := 278) (by omega) (by omega) ?_
      obtain ⟨a, ha0, hPw, hDw⟩ := sW_made hL0 hL1 (by omega) hP hD
      have hKw : va_K D vwCl (sT (fun k => if k = 0 then cP' else if k = 1 then cG else cI)) s := by
        have h1 := (hKP.app (hK.sub (tys' := [(cG, .object "SaltRow$Family"), (cI, .int)]) [1, 0] rfl))
        exact h1
      exact W.vret hx hb hr (fun t ht hW => ⟨⟨(a, fun k => if k = 0 then cP' else if k = 1 then cG else cI), rfl, ha0, by rw [ht]; exact hPw, va_K.moved hW.alike hKw, hDw⟩, hS.F ht⟩) hS.2.2 dX3_init_65 hlocks
    | succ n ih =>
      intro F H locs ls hn hP hD hS hl
      refine lv_iload_n hx hb dX3_init_37 rfl (lv_at hl 1 rfl) ?_
      refine lv_aload_n hx hb dX3_init_38 rfl (lv_at hl 0 rfl) ?_
      refine va_get (D := D) (ci := kX3) (v := .ref g) (C := RX3) (T := TX3) (N := 10) hx hb hts iX3_i_X3 hown hK hP 0 rfl kcX3 2 (by decide) (hts _ mX3_i_f2) (fun _ h9 => h9) rfl dX3_init_39 ?_
      refine va_alen (v := 6) hx hb hK hP 5 1 rfl rfl rfl dX3_init_42 ?_
      refine lv_icmp_ge (tgt := 65) hx hb dX3_init_43 (by decide) (fun c1 => absurd c1 (nI_ge (a := F.length) (b := 6) (by omega) (by decide))) (fun c1 => ?_)
      refine lv_aload_n hx hb dX3_init_46 rfl (lv_at hl 0 rfl) ?_
      refine va_get (D := D) (ci := kX3) (v := .ref g) (C := RX3) (T := TX3) (N := 10) hx hb hts iX3_i_X3 hown hK hP 0 rfl kcX3 2 (by decide) (hts _ mX3_i_f2) (fun _ h9 => h9) rfl dX3_init_47 ?_
      refine lv_iload_n hx hb dX3_init_50 rfl (lv_at hl 1 rfl) ?_
      refine va_new (ci := kX0) (fs := [.null, .int 0, .int 0, .int 0, .int 0, .int 0]) (C := RX0) (T := TX0) (N := 6) hx hb hts iX3_i_X0 tyX0 tyX0_ok hown (hts _ mX3_i_k0) (hts _ mX3_i_n0) (hts _ mX3_i_z0) hK hP hD hS hA kcX0 (fun j hj => by rcases (show j = 0 ∨ j = 1 ∨ j = 2 ∨ j = 3 ∨ j = 4 ∨ j = 5 by omega) with rfl | rfl | rfl | rfl | rfl | rfl <;> rfl) (by show 21 + 2 * F.length + 1 ≤ 33; omega) (by show 224 + 9 * F.length + 6 ≤ 278; omega) dX3_init_51 (fun x H hP hD hS => ?_)
      refine lv_dup hx hb dX3_init_54 rfl ?_
      have hP := va_P.swap (a := sX6 h0 r0 q0 r1 q1 g cP' cG L0 L1 F) (b := (sPl L1 ++ sPl L0) ++ sFp cI F) (c := sF0 x) hP
      have hD := va_D.swap (a := sX6 h0 r0 q0 r1 q1 g cP' cG L0 L1 F) (b := (sPl L1 ++ sPl L0) ++ sFp cI F) (c := sF0 x) hD
      have hPc := hP.sub (ws' := sF0 x) [6] rfl
      have hDc := hD.sub (ws' := sF0 x) [6] (by decide) rfl
      have hFc := va_free (wc := sF0 x) hD hS hA [6] rfl
      refine va_callv (va_runIN (As := []) (rest := [.ref x, .int (nI F.length), .ref g]) ⟨hx, hb, hml, hown, hts⟩ (zX0_init l D x H.size) ⟨va_cnB 0 hts gX3_init_X0_init_n25 rfl rfl rfl (sN_X3_X0_init hNA.1) (hts _ mX3_i_z0) (by decide +kernel) ⟨Nat.le_of_ble_eq_true rfl, Nat.le_of_ble_eq_true rfl⟩, rfl, hts _ mX3_i_y0⟩ ⟨fun v U g mk z => by obtain ⟨z0, z1, zP, zK, zD⟩ := z; exact ⟨z0, z1, zP, va_K.moved (u := U) (U := U.calling g mk v) (Vm.Alike.refl U.vm) zK, zD⟩, fun U hU hW => ⟨rfl, by rw [hU], by rw [hU]; exact hPc, va_K.moved hW.alike hKc, hDc.weaken (fun _ _ _ _ => trivial)⟩⟩ rfl rfl hl.1 rfl (lv_room (Nat.le_of_ble_eq_true rfl)) dX3_init_55 ⟨by show 21 + 2 * F.length + 1 + 1 ≤ 33; omega, by show 224 + 9 * F.length + 6 + 3 ≤ 278; omega⟩) hS (fun q _ h => hFc q h) hFc (fun u t H1 locs ht hvm hw hB hz1 hk1 hS => ?_)
      obtain ⟨z, cI'⟩ := u
      obtain ⟨hP1, hK1, hD1⟩ := hB
      rw [ht] at hP1
      obtain rfl : cI' = cI := va_K_one (va_K.moved hvm.symm hK1) hKI (i := 0) (j := 0) rfl rfl
      obtain ⟨hP, hD⟩ := va_joinQ (X := sX6 h0 r0 q0 r1 q1 g cP' cG L0 L1 F ++ sF0 x) (cx := sF0 x) (wr := sX6 h0 r0 q0 r1 q1 g cP' cG L0 L1 F) (w1 := [(x, sFE z), (z, sIE cI')]) (pl := (sPl L1 ++ sPl L0) ++ sFp cI' F) hP hD [6] [0, 1, 2, 3, 4, 5] rfl rfl (by decide) (by decide) hk1 hFc hP1 hD1
      generalize H1 = H at hP hS ⊢
      refine va_astq (r := (RX0, TX0, 6)) (ci := kX0) (vs := [.ref z, .int 0, .int 0, .int 0, .int 0, .int 0]) hx hb hK hP hD hS 5 1 6 rfl rfl rfl kcX0 (vp_in_nI (by omega) (by omega)) dX3_init_58 (fun H locs hP hD hS => ?_)
      rw [nI_clamp (by omega), show va_up (fun j => (F.map Prod.fst)[j]?) F.length (some x) = (fun j => ((F ++ [(x, z)]).map Prod.fst)[j]?) from sFp_fst F (x, z)] at hP hD
      have e9 : sFp cI' (F ++ [(x, z)]) = sFp cI' F ++ [(x, sFE z), (z, sIE cI')] := sFp_app cI' F (x, z)
      have hP : va_P D vwCl (sX6 h0 r0 q0 r1 q1 g cP' cG L0 L1 (F ++ [(x, z)]) ++ ((sPl L1 ++ sPl L0) ++ sFp cI' (F ++ [(x, z)]))) H := by
        have h2 := va_P.swap (a := sX6 h0 r0 q0 r1 q1 g cP' cG L0 L1 (F ++ [(x, z)])) (b := [(x, sFE z), (z, sIE cI')]) (c := (sPl L1 ++ sPl L0) ++ sFp cI' F) hP
        rw [List.append_assoc, List.append_assoc (sPl L1 ++ sPl L0), ← e9] at h2
        exact h2
      have hD : va_D (va_A (sO0 h0) s.heap.size) (sX6 h0 r0 q0 r1 q1 g cP' cG L0 L1 (F ++ [(x, z)]) ++ ((sPl L1 ++ sPl L0) ++ sFp cI' (F ++ [(x, z)]))) := by
        have h2 := va_D.swap (a := sX6 h0 r0 q0 r1 q1 g cP' cG L0 L1 (F ++ [(x, z)])) (b := [(x, sFE z), (z, sIE cI')]) (c := (sPl L1 ++ sPl L0) ++ sFp cI' F) hD
        rw [List.append_assoc, List.append_assoc (sPl L1 ++ sPl L0), ← e9] at h2
        exact h2
      refine lv_iinc (v := nI (F ++ [(x, z)]).length) (lv' := [(1, .int (nI (F ++ [(x, z)]).length)), (0, .ref h0)]) hx hb dX3_init_59 hl (k := 1) rfl (by rw [List.length_append]; exact nI_1 F.length) (by decide) rfl (fun ls hl => ?_)
      refine lv_goto (tgt := 37) hx hb dX3_init_62 (by decide) ?_
      refine W.widen (k := 21 + 2 * (F ++ [(x, z)]).length) (n := 224 + 9 * (F ++ [(x, z)]).length) (by rw [List.length_append]; show 21 + 2 * F.length + 1 + 1 ≤ 21 + 2 * (F.length + 1); omega) (by rw [List.length_append]; show 224 + 9 * F.length + 6 + 3 ≤ 224 + 9 * (F.length + 1); omega) ?_
      exact ih (F ++ [(x, z)]) H locs ls (by rw [List.length_append]; show F.length + 1 + n = 6; omega) hP hD hS (lv_sub hl [1, 0] rfl)
  have e0 : (fun _ : Nat => (none : Option Nat)) = (fun j => (([] : List (Nat × Nat)).map Prod.fst)[j]?) := by funext j; simp
  refine W.widen (k := 21 + 2 * ([] : List (Nat × Nat)).length) (n := 224 + 9 * ([] : List (Nat × Nat)).length) (by decide) (by decide) ?_
  refine loop 6 [] H locs ls (by decide) ?_ ?_ hS (lv_sub hl [1, 0] rfl)
  · rw [e0] at hP
    show va_P D vwCl (_ ++ ((sPl L1 ++ sPl L0) ++ [])) H
    rw [List.append_nil]
    exact hP
  · rw [e0] at hD
    show va_D _ (_ ++ ((sPl L1 ++ sPl L0) ++ []))
    rw [List.append_nil]
    exact hD
end
