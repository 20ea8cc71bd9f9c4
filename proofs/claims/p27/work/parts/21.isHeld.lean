set_option maxHeartbeats 4000000 in
set_option maxRecDepth 100000 in
/-- no pond holds more than its brine can: the law says so -/
theorem zL_isHeld (l : Launch) (D : va_G) (a : Nat → Nat) (cs : Nat → ClassId) (σ : sS) (hp : ∀ k, k < 8 → 0 ≤ (σ (5 + 8 * 0 + k) 1).toInt ∧ pH (σ (5 + 8 * 0 + k))) : sMi l yL_isHeld wsL_isHeld ({ frames := 4, cells := 0, slots := 0, locals := 88 }) D a cs [.ref (a 0)] σ 1 σ := by
  intro sz
  refine Met.ofW (cc := cL_isHeld) (maxL := 4) (ret := (some .boolean)) (by decide) rfl ?_
  intro p e s m args below meth c s₁ B hml hv
  obtain ⟨rfl, hsz, hv2⟩ := hv
  have hv3 : sB D a cs σ sz s := ⟨hsz, hv2⟩
  subst hsz
  have hw := sH_start hv3
  obtain ⟨-, -, hK, -, hN⟩ := hv3
  have hx := B.exec
  have hb := B.bytes
  have hr := B.returns
  have hts := atoms_spec (ws := wsL_isHeld) B.pre
  have hown : s.vm.findClass RL = some m.cls := findClass_of_methodNamed B.named
  have hlocks := B.notSynchronized
  have hA : ∀ q : Nat, s.heap.size ≤ q → sA a s.heap.size q := sA_new
  have hl := lv_entry ([.ref (a 0)]) (n := 4) (Nat.le_of_ble_eq_true rfl)
  rw [lg_entry_eq]
  generalize (lg_sl ([.ref (a 0)]) ++ List.replicate (4 - (lg_sl ([.ref (a 0)])).length) Slot.unset).toArray = ls at hl ⊢
  have hl : lv_has ls 4 [(0, .ref (a 0))] := hl
  refine lv_iconst (v := 0) hx hb dL_isHeld_0 (by decide) ?_
  refine lv_istore_n (lv' := [(1, .int 0), (0, .ref (a 0))]) hx hb dL_isHeld_1 rfl hl (by decide) rfl (fun ls hl => ?_)
  have loop : ∀ (n k : Nat) (H : Heap) (locs : List Loc) (ls : Array Slot), k + n = 8 → sH D a cs (sA a s.heap.size) s.heap σ H locs → lv_has ls 4 [(0, .ref (a 0)), (1, .int (nI k))] →
      W p l e { frames := 4, cells := 0, slots := 0, locals := 88 } s m #[.ref (a 0)] below meth c H locs 0 0 (MQ below (va_Qi (fun r (_ : Unit) => r = 1) (fun _ t => va_P D vwCl (sW a cs σ) t.heap) (sA a s.heap.size)) #[.ref (a 0)] s 0 0 (sA a s.heap.size)) (F0 m 2 ls []) := by
    intro n
    induction n with
    | zero =>
      intro k H locs ls hn hw hl
      refine lv_iload_n hx hb dL_isHeld_2 rfl (lv_at hl 1 rfl) ?_
      refine lv_bipush (v := 8) hx hb dL_isHeld_3 (by decide) ?_
      refine lv_icmp_ge (tgt := 72) hx hb dL_isHeld_5 (by decide) (fun c1 => ?_) (fun c1 => absurd (by rw [show k = 8 by omega]; decide) c1)
      refine lv_iconst (v := 1) hx hb dL_isHeld_72 (by decide) ?_
      exact W.zret hx hb hr rfl (fun t ht hW => ⟨⟨1, (), rfl, rfl, by show va_P D vwCl (sW a cs σ) t.heap; rw [ht]; exact hw.1⟩, hw.2.2.F ht⟩) hw.2.2.2.2 dL_isHeld_73 hlocks
    | succ n ih =>
      intro k H locs ls hn hw hl
      have hk : k < 8 := by omega
      have hh := hp k hk
      have y1 : f_X1_read (σ (5 + 8 * 0 + k)) 1 = σ (5 + 8 * 0 + k) 1 := rfl
      have y2 : f_X1_read (σ (5 + 8 * 0 + k)) 2 = σ (5 + 8 * 0 + k) 2 := rfl
      have y3 : f_X1_read (σ (5 + 8 * 0 + k)) 3 = σ (5 + 8 * 0 + k) 3 := rfl
      have y4 : f_X1_read (σ (5 + 8 * 0 + k)) 4 = σ (5 + 8 * 0 + k) 4 := rfl
      refine lv_iload_n hx hb dL_isHeld_2 rfl (lv_at hl 1 rfl) ?_
      refine lv_bipush (v := 8) hx hb dL_isHeld_3 (by decide) ?_
      refine lv_icmp_ge (tgt := 72) hx hb dL_isHeld_5 (by decide) (fun c1 => absurd c1 (nI_ge (a := k) (b := 8) (by omega) (by decide))) (fun c1 => ?_)
      refine lv_aload_n hx hb dL_isHeld_8 rfl (lv_at hl 0 rfl) ?_
      refine lv_iload_n hx hb dL_isHeld_9 rfl (lv_at hl 1 rfl) ?_
      refine lv_iconst (v := nI 1) hx hb dL_isHeld_10 (by decide) ?_
      refine sc_i (sr_V (i := 0) (As := [.int (nI k), .int (nI 1)]) (rest := []) ⟨hx, hb, hml, hown, hts⟩ (zX3_ofPond l D a cs σ k hk 1 (by decide) _) (cwV 2 hts gL_isHeld_X3_ofPond rfl rfl rfl (by decide +kernel) ⟨Nat.le_of_ble_eq_true rfl, Nat.le_of_ble_eq_true rfl⟩) hK hN hw (by omega) sE_o kcX3 rfl hl.1 (Nat.le_of_ble_eq_true rfl) dL_isHeld_11 ⟨Nat.le_of_ble_eq_true rfl, Nat.le_of_ble_eq_true rfl⟩) hw hA (fun H locs hw => ?_)
      refine lv_i2l hx hb dL_isHeld_14 rfl ?_
      rw [y1]
      refine lv_lstore_n (lv' := [(2, .long (σ (5 + 8 * 0 + k) 1).toInt64), (0, .ref (a 0)), (1, .int (nI k))]) hx hb dL_isHeld_15 rfl hl (by decide) rfl (fun ls hl => ?_)
      refine lv_aload_n hx hb dL_isHeld_16 rfl (lv_at hl 1 rfl) ?_
      refine lv_iload_n hx hb dL_isHeld_17 rfl (lv_at hl 2 rfl) ?_
      refine lv_iconst (v := nI 2) hx hb dL_isHeld_18 (by decide) ?_
      refine sc_i (sr_V (i := 0) (As := [.int (nI k), .int (nI 2)]) (rest := []) ⟨hx, hb, hml, hown, hts⟩ (zX3_ofPond l D a cs σ k hk 2 (by decide) _) (cwV 2 hts gL_isHeld_X3_ofPond rfl rfl rfl (by decide +kernel) ⟨Nat.le_of_ble_eq_true rfl, Nat.le_of_ble_eq_true rfl⟩) hK hN hw (by omega) sE_o kcX3 rfl hl.1 (Nat.le_of_ble_eq_true rfl) dL_isHeld_19 ⟨Nat.le_of_ble_eq_true rfl, Nat.le_of_ble_eq_true rfl⟩) hw hA (fun H locs hw => ?_)
      refine lv_i2l hx hb dL_isHeld_22 rfl ?_
      rw [y2]
      refine lv_ldc2 hx hb hown (hts (.constantLong RL 82 (300)) (by decide +kernel)) dL_isHeld_23 ?_
      refine lv_lload_n hx hb dL_isHeld_26 rfl (lv_at hl 0 rfl) ?_
      refine lv_lmul hx hb dL_isHeld_27 ?_
      refine W.lcmp hx hb dL_isHeld_28 ?_
      refine lv_if_gt (tgt := 64) hx hb dL_isHeld_29 (by decide) (fun c2 => absurd c2 (hd_cmp (by decide) (by decide) hh.1 hh.2.1)) (fun c2 => ?_)
      refine lv_aload_n hx hb dL_isHeld_32 rfl (lv_at hl 1 rfl) ?_
      refine lv_iload_n hx hb dL_isHeld_33 rfl (lv_at hl 2 rfl) ?_
      refine lv_iconst (v := nI 3) hx hb dL_isHeld_34 (by decide) ?_
      refine sc_i (sr_V (i := 0) (As := [.int (nI k), .int (nI 3)]) (rest := []) ⟨hx, hb, hml, hown, hts⟩ (zX3_ofPond l D a cs σ k hk 3 (by decide) _) (cwV 2 hts gL_isHeld_X3_ofPond rfl rfl rfl (by decide +kernel) ⟨Nat.le_of_ble_eq_true rfl, Nat.le_of_ble_eq_true rfl⟩) hK hN hw (by omega) sE_o kcX3 rfl hl.1 (Nat.le_of_ble_eq_true rfl) dL_isHeld_35 ⟨Nat.le_of_ble_eq_true rfl, Nat.le_of_ble_eq_true rfl⟩) hw hA (fun H locs hw => ?_)
      refine lv_i2l hx hb dL_isHeld_38 rfl ?_
      rw [y3]
      refine lv_ldc2 hx hb hown (hts (.constantLong RL 84 (8)) (by decide +kernel)) dL_isHeld_39 ?_
      refine lv_lload_n hx hb dL_isHeld_42 rfl (lv_at hl 0 rfl) ?_
      refine lv_lmul hx hb dL_isHeld_43 ?_
      refine W.lcmp hx hb dL_isHeld_44 ?_
      refine lv_if_gt (tgt := 64) hx hb dL_isHeld_45 (by decide) (fun c2 => absurd c2 (hd_cmp (by decide) (by decide) hh.1 hh.2.2.1)) (fun c2 => ?_)
      refine lv_aload_n hx hb dL_isHeld_48 rfl (lv_at hl 1 rfl) ?_
      refine lv_iload_n hx hb dL_isHeld_49 rfl (lv_at hl 2 rfl) ?_
      refine lv_iconst (v := nI 4) hx hb dL_isHeld_50 (by decide) ?_
      refine sc_i (sr_V (i := 0) (As := [.int (nI k), .int (nI 4)]) (rest := []) ⟨hx, hb, hml, hown, hts⟩ (zX3_ofPond l D a cs σ k hk 4 (by decide) _) (cwV 2 hts gL_isHeld_X3_ofPond rfl rfl rfl (by decide +kernel) ⟨Nat.le_of_ble_eq_true rfl, Nat.le_of_ble_eq_true rfl⟩) hK hN hw (by omega) sE_o kcX3 rfl hl.1 (Nat.le_of_ble_eq_true rfl) dL_isHeld_51 ⟨Nat.le_of_ble_eq_true rfl, Nat.le_of_ble_eq_true rfl⟩) hw hA (fun H locs hw => ?_)
      refine lv_i2l hx hb dL_isHeld_54 rfl ?_
      rw [y4]
      refine lv_ldc2 hx hb hown (hts (.constantLong RL 86 (200)) (by decide +kernel)) dL_isHeld_55 ?_
      refine lv_lload_n hx hb dL_isHeld_58 rfl (lv_at hl 0 rfl) ?_
      refine lv_lmul hx hb dL_isHeld_59 ?_
      refine W.lcmp hx hb dL_isHeld_60 ?_
      refine lv_if_le (tgt := 66) hx hb dL_isHeld_61 (by decide) (fun c2 => ?_) (fun c2 => absurd (by have := hd_cmp (x := σ (5 + 8 * 0 + k) 4) (b := σ (5 + 8 * 0 + k) 1) (y := 200) (by decide) (by decide) hh.1 hh.2.2.2; exact ti_le.mpr (by have := mt ti_lt.mpr this; omega)) c2)
      refine lv_iinc (v := nI (k + 1)) (lv' := [(1, .int (nI (k + 1))), (2, .long (σ (5 + 8 * 0 + k) 1).toInt64), (0, .ref (a 0))]) hx hb dL_isHeld_66 hl (k := 2) rfl (nI_1 k) (by decide) rfl (fun ls hl => ?_)
      refine lv_goto (tgt := 2) hx hb dL_isHeld_69 (by decide) ?_
      exact ih (k + 1) H locs ls (by omega) hw (lv_sub hl [2, 0] rfl)
  exact loop 8 0 s.heap [] ls (by decide) hw (lv_sub hl [1, 0] rfl)
