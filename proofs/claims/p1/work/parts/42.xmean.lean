def sMd (l : Launch) (y : MethodName) (ws : List Cond) (rm : Room) (D : va_G) (a : Nat → Nat) (cs : Nat → ClassId) (av : List Value) (σ : sS) (v : UInt64) (σ' : sS) : Prop := ∀ sz : Nat, Met l y ws rm (va_Pc av (sB D a cs σ sz)) (va_Qd (fun r (_ : Unit) => r = v) (fun _ t => va_P D vwCl (sW a cs σ') t.heap) (sA a sz)) 0 0 (sA a sz)
theorem se_d {p : Program} {l : Launch} {e : Env} {R : Room} {s : State} {m : MethodId} {args : Array Value} {below : List Frame} {meth : Method} {c : Code} {H : Heap} {locs : List Loc} {cells slots : Nat} {cc : ByteArray} {pc : Nat} {ls : Array Slot} {D : va_G} {a : Nat → Nat} {cs : Nat → ClassId} {σ σ' : sS} (hx : p.tables.exec = Jvm.exec) (hb : c.code = cc) (hr : meth.sig.returnType = some .double) (hlocks : meth.locks = false) (hw : sH D a cs (sA a s.heap.size) s.heap σ H locs) {v v' : UInt64} (hv : v = v') (hσ : σ = σ') (hdg : decode cc pc = .ok (.dreturn, 1)) : W p l e R s m args below meth c H locs cells slots (MQ below (va_Qd (fun r (_ : Unit) => r = v') (fun _ t => va_P D vwCl (sW a cs σ') t.heap) (sA a s.heap.size)) args s cells slots (sA a s.heap.size)) (F0 m pc ls [.double v]) := by
  subst hv; subst hσ
  exact W.dret hx hb hr (fun t ht hW => ⟨⟨v, (), rfl, rfl, by show va_P D vwCl (sW a cs σ) t.heap; rw [ht]; exact hw.1⟩, hw.2.2.F ht⟩) hw.2.2.2.2 hdg hlocks
theorem mX3_meanStrength_0 : (Cond.fieldLink RX3 10 "SaltRow" "row" "LSaltRow$Row;") ∈ wsX3_meanStrength := by decide +kernel
theorem iX3_meanStrength_X3 : ∀ w ∈ wsX30, w ∈ wsX3_meanStrength := by decide +kernel
theorem mX3_meanStrength_2 : (Cond.fieldLink RX3 46 "SaltRow$Row" "ponds" "[LSaltRow$Pond;") ∈ wsX3_meanStrength := by decide +kernel
theorem iX3_meanStrength_X2 : ∀ w ∈ wsX20, w ∈ wsX3_meanStrength := by decide +kernel
theorem mX3_meanStrength_4 : (Cond.fieldLink RX3 89 "SaltRow$Pond" "brine" "I") ∈ wsX3_meanStrength := by decide +kernel
theorem iX3_meanStrength_X1 : ∀ w ∈ wsX10, w ∈ wsX3_meanStrength := by decide +kernel
set_option maxHeartbeats 4000000 in
set_option maxRecDepth 100000 in
theorem zX3_meanStrength (l : Launch) (D : va_G) (a : Nat → Nat) (cs : Nat → ClassId) (σ : sS) (hb0 : ∀ j, j < 8 → σ (5 + 8 * 0 + j) 1 ≤ 0) : sMd l yX3_meanStrength wsX3_meanStrength ({ frames := 2, cells := 0, slots := 0, locals := 45 }) D a cs [.ref (a 0)] σ FP.dconst0 σ := by
  intro sz
  refine Met.ofW (cc := cX3_meanStrength) (maxL := 4) (ret := (some .double)) (by decide) rfl ?_
  intro p e s m args below meth c s₁ B hml hv
  obtain ⟨rfl, hsz, hv2⟩ := hv
  have hv3 : sB D a cs σ sz s := ⟨hsz, hv2⟩
  subst hsz
  have hw := sH_start hv3
  obtain ⟨-, -, hK, -, hN⟩ := hv3
  have hx := B.exec
  have hb := B.bytes
  have hr := B.returns
  have hts := atoms_spec (ws := wsX3_meanStrength) B.pre
  have hown : s.vm.findClass RX3 = some m.cls := findClass_of_methodNamed B.named
  have hlocks := B.notSynchronized
  have hA : ∀ q : Nat, s.heap.size ≤ q → sA a s.heap.size q := sA_new
  have hl := lv_entry ([.ref (a 0)]) (n := 4) (Nat.le_of_ble_eq_true rfl)
  rw [lg_entry_eq]
  generalize (lg_sl ([.ref (a 0)]) ++ List.replicate (4 - (lg_sl ([.ref (a 0)])).length) Slot.unset).toArray = ls at hl ⊢
  have hl : lv_has ls 4 [(0, .ref (a 0))] := hl
  refine lv_iconst (v := 0) hx hb dX3_meanStrength_0 (by decide) ?_
  refine lv_istore_n (lv' := [(1, .int 0), (0, .ref (a 0))]) hx hb dX3_meanStrength_1 rfl hl (by decide) rfl (fun ls hl => ?_)
  refine lv_iconst (v := 0) hx hb dX3_meanStrength_2 (by decide) ?_
  refine lv_istore_n (lv' := [(2, .int 0), (1, .int 0), (0, .ref (a 0))]) hx hb dX3_meanStrength_3 rfl hl (by decide) rfl (fun ls hl => ?_)
  refine lv_iconst (v := 0) hx hb dX3_meanStrength_4 (by decide) ?_
  refine lv_istore_n (lv' := [(3, .int 0), (2, .int 0), (1, .int 0), (0, .ref (a 0))]) hx hb dX3_meanStrength_5 rfl hl (by decide) rfl (fun ls hl => ?_)
  have loop : ∀ (Q : State → Prop) (n : Nat) (k : Nat) (τ : sS)  (H : Heap) (locs : List Loc) (ls : Array Slot), k + n = 8 ∧ (∀ j, j < 8 → τ (5 + 8 * 0 + j) 1 ≤ 0) → sH D a cs (sA a s.heap.size) s.heap τ H locs → lv_has ls 4 [(0, .ref (a 0)), (1, .int 0), (2, .int 0), (3, .int (nI k))] → (∀ (H : Heap) (locs : List Loc) (ls : Array Slot), sH D a cs (sA a s.heap.size) s.heap (τ) H locs → lv_has ls 4 [(2, .int 0)] → W p l e { frames := 2, cells := 0, slots := 0, locals := 45 } s m #[Value.ref (a 0)] below meth c H locs 0 0 Q (F0 m 51 ls [])) → W p l e { frames := 2, cells := 0, slots := 0, locals := 45 } s m #[Value.ref (a 0)] below meth c H locs 0 0 Q (F0 m 6 ls []) := by
    intro Q n
    induction n with
    | zero =>
      intro k τ  H locs ls hkn hw hl kont
      refine lv_iload_n hx hb dX3_meanStrength_6 rfl (lv_at hl 3 rfl) ?_
      refine lv_bipush (v := 8) hx hb dX3_meanStrength_7 (by decide) ?_
      refine lv_icmp_ge (tgt := 51) hx hb dX3_meanStrength_9 (by decide) (fun c1 => ?_) (fun c1 => absurd (by rw [show k = 8 by omega]; decide) c1)
      exact kont H locs ls hw (lv_sub hl [2] rfl)
    | succ n ih =>
      intro k τ  H locs ls hkn hw hl kont
      refine lv_iload_n hx hb dX3_meanStrength_6 rfl (lv_at hl 3 rfl) ?_
      refine lv_bipush (v := 8) hx hb dX3_meanStrength_7 (by decide) ?_
      refine lv_icmp_ge (tgt := 51) hx hb dX3_meanStrength_9 (by decide) (fun c2 => absurd c2 (nI_ge (a := k) (b := 8) (by omega) (by decide))) (fun c2 => ?_)
      refine lv_aload_n hx hb dX3_meanStrength_12 rfl (lv_at hl 0 rfl) ?_
      refine sg_oq hx hb hts iX3_meanStrength_X3 hown hK hw 0 (Or.inl ⟨rfl, rfl⟩) (hts _ mX3_meanStrength_0) dX3_meanStrength_13 ?_
      refine sg_rq (r := 0) hx hb hts iX3_meanStrength_X2 hown hK hw (by omega) (hts _ mX3_meanStrength_2) dX3_meanStrength_16 ?_
      refine lv_iload_n hx hb dX3_meanStrength_19 rfl (lv_at hl 3 rfl) ?_
      refine sg_q (r := 0) (k := k) hx hb hK hw (by omega) (by omega) rfl dX3_meanStrength_20 ?_
      refine sg_p hx hb hts iX3_meanStrength_X1 hown hK hw (by omega) 1 (by decide) (hts _ mX3_meanStrength_4) dX3_meanStrength_21 ?_
      refine lv_if_le (tgt := 45) hx hb dX3_meanStrength_24 (by decide) (fun c3 => ?_) (fun c3 => absurd (hkn.2 k (by omega)) c3)
      refine lv_iinc (v := nI (k + 1)) (lv' := [(3, .int (nI (k + 1))), (0, .ref (a 0)), (1, .int 0), (2, .int 0)]) hx hb dX3_meanStrength_45 hl (k := 3) rfl (nI_1 k) (by decide) rfl (fun ls hl => ?_)
      refine lv_goto (tgt := 6) hx hb dX3_meanStrength_48 (by decide) ?_
      have hstep : τ = τ := by
        rfl
      exact ih (k + 1) τ  H locs ls ⟨by omega, hkn.2⟩ hw (lv_sub hl [1, 2, 3, 0] rfl) (fun H locs ls hw hl => kont H locs ls (by rw [hstep]; exact hw) (by exact hl))
  refine loop _ 8 0 σ  _ _ _ ⟨by decide, hb0⟩ hw (lv_sub hl [3, 2, 1, 0] rfl) (fun H locs ls hw hl => ?_)
  obtain ⟨τ4, eτ4⟩ : ∃ zz : sS, σ = zz := ⟨_, rfl⟩
  rw [eτ4] at hw
  refine lv_iload_n hx hb dX3_meanStrength_51 rfl (lv_at hl 0 rfl) ?_
  refine lv_if_le (tgt := 63) hx hb dX3_meanStrength_52 (by decide) (fun c5 => ?_) (fun c5 => absurd (by decide) c5)
  refine lv_dconst0 hx hb dX3_meanStrength_63 ?_
  exact se_d hx hb hr hlocks hw (by rfl) (by subst eτ4; rfl) dX3_meanStrength_64
