theorem mX6_meanStrength_0 : (Cond.fieldLink RX6 31 "SaltRowModel" "thrown" "I") ∈ wsX6_meanStrength := by decide +kernel
theorem iX6_meanStrength_X6 : ∀ w ∈ wsX60, w ∈ wsX6_meanStrength := by decide +kernel
theorem mX6_meanStrength_2 : (Cond.fieldLink RX6 18 "SaltRowModel" "row" "LSaltRowModel$Row;") ∈ wsX6_meanStrength := by decide +kernel
theorem mX6_meanStrength_3 : (Cond.fieldLink RX6 57 "SaltRowModel$Row" "ponds" "[LSaltRowModel$Pond;") ∈ wsX6_meanStrength := by decide +kernel
theorem iX6_meanStrength_X5 : ∀ w ∈ wsX50, w ∈ wsX6_meanStrength := by decide +kernel
theorem mX6_meanStrength_5 : (Cond.fieldLink RX6 91 "SaltRowModel$Pond" "brine" "I") ∈ wsX6_meanStrength := by decide +kernel
theorem iX6_meanStrength_X4 : ∀ w ∈ wsX40, w ∈ wsX6_meanStrength := by decide +kernel
set_option maxHeartbeats 4000000 in
set_option maxRecDepth 100000 in
theorem zX6_meanStrength (l : Launch) (D : va_G) (a : Nat → Nat) (cs : Nat → ClassId) (N : Nat) (hN : 12 ≤ N) (σ : sS) (hf : mFr σ) : mMd l yX6_meanStrength wsX6_meanStrength ({ frames := 2, cells := 0, slots := 0, locals := 45 }) 0 0 D a cs N [.ref (a 10)] σ FP.dconst0 (m_thr σ 0) := by
  intro sz
  refine Met.ofW (cc := cX6_meanStrength) (maxL := 7) (ret := (some .double)) (by decide) rfl ?_
  intro p e s m args below meth c s₁ B hml hv
  obtain ⟨rfl, hsz, hv2⟩ := hv
  have hv3 : mB D a cs N σ sz s := ⟨hsz, hv2⟩
  subst hsz
  have hw := mH_start hv3
  obtain ⟨-, -, hK, -, hN2⟩ := hv3
  have hx := B.exec
  have hb := B.bytes
  have hr := B.returns
  have hts := atoms_spec (ws := wsX6_meanStrength) B.pre
  have hown : s.vm.findClass RX6 = some m.cls := findClass_of_methodNamed B.named
  have hlocks := B.notSynchronized
  have hA : ∀ q : Nat, s.heap.size ≤ q → mA a N s.heap.size q := mA_new
  have hl := lv_entry ([.ref (a 10)]) (n := 7) (Nat.le_of_ble_eq_true rfl)
  rw [lg_entry_eq]
  generalize (lg_sl ([.ref (a 10)]) ++ List.replicate (7 - (lg_sl ([.ref (a 10)])).length) Slot.unset).toArray = ls at hl ⊢
  have hl : lv_has ls 7 [(0, .ref (a 10))] := hl
  refine lv_aload_n hx hb dX6_meanStrength_0 rfl (lv_at hl 0 rfl) ?_
  refine lv_iconst (v := 0) hx hb dX6_meanStrength_1 (by decide) ?_
  refine mp_o hx hb hts iX6_meanStrength_X6 hown hK hw (by omega) 0 (by decide) (hts _ mX6_meanStrength_0) dX6_meanStrength_2 (fun H locs hw => ?_)
  obtain ⟨τ1, eτ1⟩ : ∃ zz : sS, va_up σ 10 (upd (σ 10) 0 0) = zz := ⟨_, rfl⟩
  rw [eτ1] at hw
  refine lv_iconst (v := 0) hx hb dX6_meanStrength_5 (by decide) ?_
  refine lv_istore_n (lv' := [(1, .int 0), (0, .ref (a 10))]) hx hb dX6_meanStrength_6 rfl hl (by decide) rfl (fun ls hl => ?_)
  refine lv_iconst (v := 0) hx hb dX6_meanStrength_7 (by decide) ?_
  refine lv_istore_n (lv' := [(2, .int 0), (1, .int 0), (0, .ref (a 10))]) hx hb dX6_meanStrength_8 rfl hl (by decide) rfl (fun ls hl => ?_)
  refine lv_aload_n hx hb dX6_meanStrength_9 rfl (lv_at hl 2 rfl) ?_
  refine mg_o1 hx hb hts iX6_meanStrength_X6 hown hK hw (by omega) (hts _ mX6_meanStrength_2) dX6_meanStrength_10 ?_
  refine mg_rq hx hb hts iX6_meanStrength_X5 hown hK hw (by omega) (hts _ mX6_meanStrength_3) dX6_meanStrength_13 ?_
  refine lv_astore_n (lv' := [(3, .ref (a 1)), (2, .int 0), (1, .int 0), (0, .ref (a 10))]) hx hb dX6_meanStrength_16 rfl hl (by decide) rfl (fun ls hl => ?_)
  refine lv_aload_n hx hb dX6_meanStrength_17 rfl (lv_at hl 0 rfl) ?_
  refine mg_qlen hx hb hK hw (by omega) dX6_meanStrength_18 ?_
  refine lv_istore (lv' := [(4, .int 8), (3, .ref (a 1)), (2, .int 0), (1, .int 0), (0, .ref (a 10))]) hx hb dX6_meanStrength_19 hl (by decide) rfl (fun ls hl => ?_)
  refine lv_iconst (v := 0) hx hb dX6_meanStrength_21 (by decide) ?_
  refine lv_istore (lv' := [(5, .int 0), (4, .int 8), (3, .ref (a 1)), (2, .int 0), (1, .int 0), (0, .ref (a 10))]) hx hb dX6_meanStrength_22 hl (by decide) rfl (fun ls hl => ?_)
  have loop : ∀ (Q : State → Prop) (n : Nat) (k : Nat) (τ : sS)  (H : Heap) (locs : List Loc) (ls : Array Slot), k + n = 8 ∧ mFr τ → mH D a cs N (mA a N s.heap.size) s.heap τ ([]) H locs → lv_has ls 7 [(1, .int 0), (2, .int 0), (3, .ref (a 1)), (4, .int 8), (5, .int (nI k))] → (∀ (H : Heap) (locs : List Loc) (ls : Array Slot), mH D a cs N (mA a N s.heap.size) s.heap (τ) ([]) H locs → lv_has ls 7 [(2, .int 0)] → W p l e { frames := 2, cells := 0, slots := 0, locals := 45 } s m #[Value.ref (a 10)] below meth c H locs 0 0 Q (F0 m 65 ls [])) → W p l e { frames := 2, cells := 0, slots := 0, locals := 45 } s m #[Value.ref (a 10)] below meth c H locs 0 0 Q (F0 m 24 ls []) := by
    intro Q n
    induction n with
    | zero =>
      intro k τ  H locs ls hkn hw hl kont
      refine lv_iload hx hb dX6_meanStrength_24 (lv_at hl 4 rfl) ?_
      refine lv_iload hx hb dX6_meanStrength_26 (lv_at hl 3 rfl) ?_
      refine lv_icmp_ge (tgt := 65) hx hb dX6_meanStrength_28 (by decide) (fun c2 => ?_) (fun c2 => absurd (by rw [show k = 8 by omega]; decide) c2)
      exact kont H locs ls hw (lv_sub hl [1] rfl)
    | succ n ih =>
      intro k τ  H locs ls hkn hw hl kont
      refine lv_iload hx hb dX6_meanStrength_24 (lv_at hl 4 rfl) ?_
      refine lv_iload hx hb dX6_meanStrength_26 (lv_at hl 3 rfl) ?_
      refine lv_icmp_ge (tgt := 65) hx hb dX6_meanStrength_28 (by decide) (fun c3 => absurd c3 (nI_ge (a := k) (b := 8) (by omega) (by decide))) (fun c3 => ?_)
      refine lv_aload_n hx hb dX6_meanStrength_31 rfl (lv_at hl 2 rfl) ?_
      refine lv_iload hx hb dX6_meanStrength_32 (lv_at hl 4 rfl) ?_
      refine mg_q (k := k) hx hb hK hw (by omega) (by omega) rfl dX6_meanStrength_34 ?_
      refine lv_astore (lv' := [(6, .ref (a (2 + k))), (1, .int 0), (2, .int 0), (3, .ref (a 1)), (4, .int 8), (5, .int (nI k))]) hx hb dX6_meanStrength_35 hl (by decide) rfl (fun ls hl => ?_)
      refine lv_aload hx hb dX6_meanStrength_37 (lv_at hl 0 rfl) ?_
      refine mg_p hx hb hts iX6_meanStrength_X4 hown hK hw (by omega) (by omega) 1 (by decide) (hts _ mX6_meanStrength_5) dX6_meanStrength_39 ?_
      refine lv_if_ne (tgt := 48) hx hb dX6_meanStrength_42 (by decide) (fun c4 => absurd (hkn.2.1 k (by omega) 1 (by decide) (by decide)) c4) (fun c4 => ?_)
      refine lv_goto (tgt := 59) hx hb dX6_meanStrength_45 (by decide) ?_
      refine lv_iinc (v := nI (k + 1)) (lv' := [(5, .int (nI (k + 1))), (6, .ref (a (2 + k))), (1, .int 0), (2, .int 0), (3, .ref (a 1)), (4, .int 8)]) hx hb dX6_meanStrength_59 hl (k := 5) rfl (nI_1 k) (by decide) rfl (fun ls hl => ?_)
      refine lv_goto (tgt := 24) hx hb dX6_meanStrength_62 (by decide) ?_
      have hstep : τ = τ := by
        rfl
      exact ih (k + 1) τ  H locs ls ⟨by omega, hkn.2⟩ hw (lv_sub hl [2, 3, 4, 5, 0] rfl) (fun H locs ls hw hl => kont H locs ls (by rw [hstep]; exact hw) (by exact hl))
  refine loop _ 8 0 τ1  _ _ _ ⟨by decide, (by subst eτ1; exact mFr_thr hf)⟩ hw (lv_sub hl [4, 3, 2, 1, 0] rfl) (fun H locs ls hw hl => ?_)
  obtain ⟨τ5, eτ5⟩ : ∃ zz : sS, τ1 = zz := ⟨_, rfl⟩
  rw [eτ5] at hw
  refine lv_iload_n hx hb dX6_meanStrength_65 rfl (lv_at hl 0 rfl) ?_
  refine lv_if_ne (tgt := 73) hx hb dX6_meanStrength_66 (by decide) (fun c6 => absurd (by decide) c6) (fun c6 => ?_)
  refine lv_dconst0 hx hb dX6_meanStrength_69 ?_
  refine lv_goto (tgt := 78) hx hb dX6_meanStrength_70 (by decide) ?_
  exact me_d hx hb hr hlocks hw (by rfl) (by subst eτ5 eτ1; rfl) dX6_meanStrength_78
