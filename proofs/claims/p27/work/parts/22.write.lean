/-- the script stays as it is behind the world's steps -/
theorem wr_cell {D : va_G} {a : Nat → Nat} {cs : Nat → ClassId} {σ : sS} {A : Nat → Prop} {s U : State} {H : Heap} {locs : List Loc} {b L : Nat} {xs : Nat → Int32} (hw : sH D a cs A s.heap σ H locs) (hX : va_X b L xs s s.heap) (hbl : b < s.heap.size) (hbA : ¬ A b) (hU : U.heap = H) (hW : s.WarmedH U.vm) : va_X b L xs U U.heap := by
  rw [hU]
  exact va_X.moved hW.alike (hX.kept (hw.2.2.2.1 b hbl hbA))
theorem w_topE {p : Program} {l : Launch} {e : Env} {R : Room} {s : State} {m : MethodId} {args : Array Value} {below : List Frame} {meth : Method} {c : Code} {H : Heap} {locs : List Loc} {cells slots : Nat} {Q : State → Prop} {pc : Nat} {ls : Array Slot} {rest : List Value} {x v : Int32} (h : x = v) (k : W p l e R s m args below meth c H locs cells slots Q (F0 m pc ls (.int v :: rest))) : W p l e R s m args below meth c H locs cells slots Q (F0 m pc ls (.int x :: rest)) := by rw [h]; exact k
theorem wr_pos {r : Int32} : (if 0 < r then (1 : Int32) else 0) = 0 ∨ (if 0 < r then (1 : Int32) else 0) = 1 := by
  split
  · exact Or.inr rfl
  · exact Or.inl rfl
def wQ (D : va_G) (a : Nat → Nat) (cs : Nat → ClassId) (sz : Nat) : Array Value → State → Outcome → State → Prop := va_Qv (fun (u : sS) => vI 3 u) (fun u t => va_P D vwCl (sW a cs u) t.heap) (sA a sz)
set_option maxHeartbeats 4000000 in
set_option maxRecDepth 100000 in
/-- the row is written: areas, gates, three families, their rights -/
theorem zL_write (l : Launch) (D : va_G) (a : Nat → Nat) (cs : Nat → ClassId) (σ : sS) (h0 : vI 0 σ) (b L : Nat) (xs : Nat → Int32) (hL : L < 1000000) (hab : ∀ i, i < 34 → a i ≠ b) (sz : Nat) : Met l yL_write wsL_write ({ frames := 3, cells := 0, slots := 0, locals := 80 }) (va_Pc [.ref (a 0), .ref b, .int 5] (fun U => sB D a cs σ sz U ∧ va_X b L xs U U.heap)) (wQ D a cs sz) 0 0 (sA a sz) := by
  refine Met.ofW (cc := cL_write) (maxL := 5) (ret := none) (by decide) rfl ?_
  intro p e s m args below meth c s₁ B hml hv
  obtain ⟨rfl, ⟨hsz, hv2⟩, hX⟩ := hv
  have hv3 : sB D a cs σ sz s := ⟨hsz, hv2⟩
  subst hsz
  have hw := sH_start hv3
  obtain ⟨-, -, hK, -, hN⟩ := hv3
  have hx := B.exec
  have hb := B.bytes
  have hr := B.returns
  have hts := atoms_spec (ws := wsL_write) B.pre
  have hown : s.vm.findClass RL = some m.cls := findClass_of_methodNamed B.named
  have hlocks := B.notSynchronized
  have hA : ∀ q : Nat, s.heap.size ≤ q → sA a s.heap.size q := sA_new
  have hbl : b < s.heap.size := by
    obtain ⟨scr, h1, -⟩ := hX
    exact (Array.getElem?_eq_some_iff.mp h1).1
  have hbA : ¬ sA a s.heap.size b := by
    rintro (⟨i, hi, e⟩ | h)
    · exact hab i hi e.symm
    · exact absurd hbl (Nat.not_lt.mpr h)
  have hl := lv_entry ([.ref (a 0), .ref b, .int 5]) (n := 5) (Nat.le_of_ble_eq_true rfl)
  rw [lg_entry_eq]
  generalize (lg_sl ([.ref (a 0), .ref b, .int 5]) ++ List.replicate (5 - (lg_sl ([.ref (a 0), .ref b, .int 5])).length) Slot.unset).toArray = ls at hl ⊢
  have hl : lv_has ls 5 [(0, .ref (a 0)), (1, .ref b), (2, .int 5)] := hl
  refine lv_iconst (v := 0) hx hb dL_write_0 (by decide) ?_
  refine lv_istore_n (lv' := [(3, .int 0), (0, .ref (a 0)), (1, .ref b), (2, .int 5)]) hx hb dL_write_1 rfl hl (by decide) rfl (fun ls hl => ?_)
  -- the rights of one family
  have pans : ∀ (Q : State → Prop) (fc : Nat) (n q : Nat) (τ : sS) (H : Heap) (locs : List Loc) (ls : Array Slot), fc < 3 → q + n = 3 → vI (fc + 1) τ → sH D a cs (sA a s.heap.size) s.heap τ H locs → lv_has ls 5 [(0, .ref (a 0)), (1, .ref b), (2, .int 5), (3, .int (nI fc)), (4, .int (nI (5 + q)))] →
      (∀ (τ : sS) (H : Heap) (locs : List Loc) (ls : Array Slot), vI (fc + 1) τ → sH D a cs (sA a s.heap.size) s.heap τ H locs → lv_has ls 5 [(0, .ref (a 0)), (1, .ref b), (2, .int 5), (3, .int (nI fc))] → W p l e { frames := 3, cells := 0, slots := 0, locals := 80 } s m #[.ref (a 0), .ref b, .int 5] below meth c H locs 0 0 Q (F0 m 110 ls [])) →
      W p l e { frames := 3, cells := 0, slots := 0, locals := 80 } s m #[.ref (a 0), .ref b, .int 5] below meth c H locs 0 0 Q (F0 m 75 ls []) := by
    intro Q fc n
    induction n with
    | zero =>
      intro q τ H locs ls hf hn hv hw hl kont
      refine lv_iload hx hb dL_write_75 (lv_at hl 4 rfl) ?_
      refine lv_bipush (v := 8) hx hb dL_write_77 (by decide) ?_
      refine lv_icmp_ge (tgt := 110) hx hb dL_write_79 (by decide) (fun c1 => ?_) (fun c1 => absurd (by rw [show q = 3 by omega]; decide) c1)
      exact kont τ H locs ls hv hw (lv_sub hl [0, 1, 2, 3] rfl)
    | succ n ih =>
      intro q τ H locs ls hf hn hv hw hl kont
      refine lv_iload hx hb dL_write_75 (lv_at hl 4 rfl) ?_
      refine lv_bipush (v := 8) hx hb dL_write_77 (by decide) ?_
      refine lv_icmp_ge (tgt := 110) hx hb dL_write_79 (by decide) (fun c1 => absurd c1 (nI_ge (a := 5 + q) (b := 8) (by omega) (by decide))) (fun c1 => ?_)
      refine lv_aload_n hx hb dL_write_82 rfl (lv_at hl 0 rfl) ?_
      refine lv_iload_n hx hb dL_write_83 rfl (lv_at hl 3 rfl) ?_
      refine lv_iload hx hb dL_write_84 (lv_at hl 4 rfl) ?_
      refine lv_aload_n hx hb dL_write_86 rfl (lv_at hl 1 rfl) ?_
      refine lv_iload_n hx hb dL_write_87 rfl (lv_at hl 3 rfl) ?_
      refine lv_iload hx hb dL_write_88 (lv_at hl 4 rfl) ?_
      refine lv_iadd hx hb dL_write_90 ?_
      refine w_topE (v := nI (fc + (5 + q))) (by rw [nI_add]) ?_
      refine lv_iload_n hx hb dL_write_91 rfl (lv_at hl 2 rfl) ?_
      refine lv_iadd hx hb dL_write_92 ?_
      refine w_topE (v := nI (fc + (5 + q) + 5)) (by rw [← nI_add (fc + (5 + q)) 5]; rfl) ?_
      refine bc_i (va_runS (As := [.ref b, .int (nI (fc + (5 + q) + 5))]) (rest := [.int (nI (5 + q)), .int (nI fc), .ref (a 0)]) ⟨hx, hb, hml, hown, hts⟩ (zL_cell l b L xs hL _ (by omega) H.size) (va_cwS 2 hts gL_write_L_cell rfl rfl rfl (by decide +kernel) ⟨Nat.le_of_ble_eq_true rfl, Nat.le_of_ble_eq_true rfl⟩) ⟨fun v U g mk z => z, fun U hU hW => ⟨rfl, by rw [hU], wr_cell hw hX hbl hbA hU hW⟩⟩ rfl rfl hl.1 rfl (lv_room (Nat.le_of_ble_eq_true rfl)) dL_write_93 ⟨Nat.le_of_ble_eq_true rfl, Nat.le_of_ble_eq_true rfl⟩) hw hA (fun v H locs _ hw => ?_)
      refine lv_iconst (v := 5) hx hb dL_write_96 (by decide) ?_
      refine bc_i (va_runS (As := [.int v, .int 5]) (rest := [.int (nI (5 + q)), .int (nI fc), .ref (a 0)]) ⟨hx, hb, hml, hown, hts⟩ (zL_below l v 5 (by decide) H.size) (va_cwS 2 hts gL_write_L_below rfl rfl rfl (by decide +kernel) ⟨Nat.le_of_ble_eq_true rfl, Nat.le_of_ble_eq_true rfl⟩) ⟨fun v U g mk z => z, fun U hU hW => ⟨rfl, by show U.heap.size = H.size; rw [hU]⟩⟩ rfl rfl hl.1 rfl (lv_room (Nat.le_of_ble_eq_true rfl)) dL_write_97 ⟨Nat.le_of_ble_eq_true rfl, Nat.le_of_ble_eq_true rfl⟩) hw hA (fun r H locs hrr hw => ?_)
      have hr4 : r.toInt ≤ 4 := by have := hrr.2; rw [show (5 : Int32).toInt = 5 from rfl] at this; omega
      refine sc_i (sr_V (i := 0) (As := [.int (nI fc), .int (nI (5 + q)), .int r]) (rest := []) ⟨hx, hb, hml, hown, hts⟩ (zX3_right l D a cs τ (fc + 1) (by omega) hv.2.2.1 fc (by omega) q (by omega) r (fun hh => by have := ti_lt.mp hh; rw [show (0 : Int32).toInt = 0 from rfl] at this; omega) (ti_le.mpr (by rw [show (12 : Int32).toInt = 12 from rfl]; omega)) (vI_fit hv (by omega) (by omega) (by omega) hrr.1 hr4) _) (cwV 3 hts gL_write_X3_right rfl rfl rfl (by decide +kernel) ⟨Nat.le_of_ble_eq_true rfl, Nat.le_of_ble_eq_true rfl⟩) hK hN hw (by omega) sE_o kcX3 rfl hl.1 (Nat.le_of_ble_eq_true rfl) dL_write_100 ⟨Nat.le_of_ble_eq_true rfl, Nat.le_of_ble_eq_true rfl⟩) hw hA (fun H locs hw => ?_)
      refine lv_pop hx hb dL_write_103 rfl ?_
      refine lv_iinc (v := nI (5 + (q + 1))) (lv' := [(4, .int (nI (5 + (q + 1)))), (0, .ref (a 0)), (1, .ref b), (2, .int 5), (3, .int (nI fc))]) hx hb dL_write_104 hl (k := 4) rfl (nI_1 (5 + q)) (by decide) rfl (fun ls hl => ?_)
      refine lv_goto (tgt := 75) hx hb dL_write_107 (by decide) ?_
      exact ih (q + 1) _ H locs ls hf (by omega) (vI_right hv (by omega) (by omega) (by omega) hrr.1 hr4) hw (lv_sub hl [1, 2, 3, 4, 0] rfl) kont
  -- the families
  have fams : ∀ (n fc : Nat) (τ : sS) (H : Heap) (locs : List Loc) (ls : Array Slot), fc + n = 3 → vI fc τ → sH D a cs (sA a s.heap.size) s.heap τ H locs → lv_has ls 5 [(0, .ref (a 0)), (1, .ref b), (2, .int 5), (3, .int (nI fc))] →
      W p l e { frames := 3, cells := 0, slots := 0, locals := 80 } s m #[.ref (a 0), .ref b, .int 5] below meth c H locs 0 0 (MQ below (wQ D a cs s.heap.size) #[.ref (a 0), .ref b, .int 5] s 0 0 (sA a s.heap.size)) (F0 m 62 ls []) := by
    intro n
    induction n with
    | zero =>
      intro fc τ H locs ls hn hv hw hl
      refine lv_iload_n hx hb dL_write_62 rfl (lv_at hl 3 rfl) ?_
      refine lv_iconst (v := 3) hx hb dL_write_63 (by decide) ?_
      refine lv_icmp_ge (tgt := 116) hx hb dL_write_64 (by decide) (fun c1 => ?_) (fun c1 => absurd (by rw [show fc = 3 by omega]; decide) c1)
      exact W.vret hx hb hr (fun t ht hW => ⟨⟨τ, rfl, by rw [show (3 : Nat) = fc by omega]; exact hv, by show va_P D vwCl (sW a cs τ) t.heap; rw [ht]; exact hw.1⟩, hw.2.2.F ht⟩) hw.2.2.2.2 dL_write_116 hlocks
    | succ n ih =>
      intro fc τ H locs ls hn hv hw hl
      refine lv_iload_n hx hb dL_write_62 rfl (lv_at hl 3 rfl) ?_
      refine lv_iconst (v := 3) hx hb dL_write_63 (by decide) ?_
      refine lv_icmp_ge (tgt := 116) hx hb dL_write_64 (by decide) (fun c1 => absurd c1 (nI_ge (a := fc) (b := 3) (by omega) (by decide))) (fun c1 => ?_)
      refine lv_aload_n hx hb dL_write_67 rfl (lv_at hl 0 rfl) ?_
      refine sc_i (sr_V (i := 0) (As := []) (rest := []) ⟨hx, hb, hml, hown, hts⟩ (zX3_family l D a cs τ (by rw [hv.2.2.1, ti_lt, nI_toInt (by omega), show (6 : Int32).toInt = 6 from rfl]; omega) _) (cwV 0 hts gL_write_X3_family rfl rfl rfl (by decide +kernel) ⟨Nat.le_of_ble_eq_true rfl, Nat.le_of_ble_eq_true rfl⟩) hK hN hw (by omega) sE_o kcX3 rfl hl.1 (Nat.le_of_ble_eq_true rfl) dL_write_68 ⟨Nat.le_of_ble_eq_true rfl, Nat.le_of_ble_eq_true rfl⟩) hw hA (fun H locs hw => ?_)
      refine lv_pop hx hb dL_write_71 rfl ?_
      refine lv_iconst (v := nI (5 + 0)) hx hb dL_write_72 (by decide) ?_
      refine lv_istore (lv' := [(4, .int (nI (5 + 0))), (0, .ref (a 0)), (1, .ref b), (2, .int 5), (3, .int (nI fc))]) hx hb dL_write_73 hl (by decide) rfl (fun ls hl => ?_)
      refine pans _ fc 3 0 _ H locs ls (by omega) (by decide) (vI_family hv (by omega)) hw (lv_sub hl [1, 2, 3, 4, 0] rfl) (fun τ H locs ls hv hw hl => ?_)
      refine lv_iinc (v := nI (fc + 1)) (lv' := [(3, .int (nI (fc + 1))), (0, .ref (a 0)), (1, .ref b), (2, .int 5)]) hx hb dL_write_110 hl (k := 3) rfl (nI_1 fc) (by decide) rfl (fun ls hl => ?_)
      refine lv_goto (tgt := 62) hx hb dL_write_113 (by decide) ?_
      exact ih (fc + 1) τ H locs ls (by omega) hv hw (lv_sub hl [1, 2, 3, 0] rfl)
  -- the ponds
  have ponds : ∀ (n k : Nat) (τ : sS) (H : Heap) (locs : List Loc) (ls : Array Slot), k + n = 8 → vI 0 τ → sH D a cs (sA a s.heap.size) s.heap τ H locs → lv_has ls 5 [(0, .ref (a 0)), (1, .ref b), (2, .int 5), (3, .int (nI k))] →
      W p l e { frames := 3, cells := 0, slots := 0, locals := 80 } s m #[.ref (a 0), .ref b, .int 5] below meth c H locs 0 0 (MQ below (wQ D a cs s.heap.size) #[.ref (a 0), .ref b, .int 5] s 0 0 (sA a s.heap.size)) (F0 m 2 ls []) := by
    intro n
    induction n with
    | zero =>
      intro k τ H locs ls hn hv hw hl
      refine lv_iload_n hx hb dL_write_2 rfl (lv_at hl 3 rfl) ?_
      refine lv_bipush (v := 8) hx hb dL_write_3 (by decide) ?_
      refine lv_icmp_ge (tgt := 60) hx hb dL_write_5 (by decide) (fun c1 => ?_) (fun c1 => absurd (by rw [show k = 8 by omega]; decide) c1)
      refine lv_iconst (v := 0) hx hb dL_write_60 (by decide) ?_
      refine lv_istore_n (lv' := [(3, .int 0), (0, .ref (a 0)), (1, .ref b), (2, .int 5)]) hx hb dL_write_61 rfl hl (by decide) rfl (fun ls hl => ?_)
      exact fams 3 0 τ H locs ls (by decide) hv hw (lv_sub hl [1, 2, 3, 0] rfl)
    | succ n ih =>
      intro k τ H locs ls hn hv hw hl
      have hk : k < 8 := by omega
      refine lv_iload_n hx hb dL_write_2 rfl (lv_at hl 3 rfl) ?_
      refine lv_bipush (v := 8) hx hb dL_write_3 (by decide) ?_
      refine lv_icmp_ge (tgt := 60) hx hb dL_write_5 (by decide) (fun c1 => absurd c1 (nI_ge (a := k) (b := 8) (by omega) (by decide))) (fun c1 => ?_)
      refine lv_aload_n hx hb dL_write_8 rfl (lv_at hl 1 rfl) ?_
      refine lv_iload_n hx hb dL_write_9 rfl (lv_at hl 3 rfl) ?_
      refine lv_iload_n hx hb dL_write_10 rfl (lv_at hl 2 rfl) ?_
      refine lv_iadd hx hb dL_write_11 ?_
      refine w_topE (v := nI (k + 5)) (by rw [← nI_add k 5]; rfl) ?_
      refine bc_i (va_runS (As := [.ref b, .int (nI (k + 5))]) (rest := []) ⟨hx, hb, hml, hown, hts⟩ (zL_cell l b L xs hL _ (by omega) H.size) (va_cwS 2 hts gL_write_L_cell rfl rfl rfl (by decide +kernel) ⟨Nat.le_of_ble_eq_true rfl, Nat.le_of_ble_eq_true rfl⟩) ⟨fun v U g mk z => z, fun U hU hW => ⟨rfl, by rw [hU], wr_cell hw hX hbl hbA hU hW⟩⟩ rfl rfl hl.1 rfl (lv_room (Nat.le_of_ble_eq_true rfl)) dL_write_12 ⟨Nat.le_of_ble_eq_true rfl, Nat.le_of_ble_eq_true rfl⟩) hw hA (fun v H locs _ hw => ?_)
      refine lv_istore (lv' := [(4, .int v), (0, .ref (a 0)), (1, .ref b), (2, .int 5), (3, .int (nI k))]) hx hb dL_write_15 hl (by decide) rfl (fun ls hl => ?_)
      refine lv_aload_n hx hb dL_write_17 rfl (lv_at hl 1 rfl) ?_
      refine lv_iload_n hx hb dL_write_18 rfl (lv_at hl 4 rfl) ?_
      refine lv_iconst (v := 1) hx hb dL_write_19 (by decide) ?_
      refine lv_iload hx hb dL_write_20 (lv_at hl 0 rfl) ?_
      refine lv_bipush (v := 9) hx hb dL_write_22 (by decide) ?_
      refine bc_i (va_runS (As := [.int v, .int 9]) (rest := [.int 1, .int (nI k), .ref (a 0)]) ⟨hx, hb, hml, hown, hts⟩ (zL_below l v 9 (by decide) H.size) (va_cwS 2 hts gL_write_L_below rfl rfl rfl (by decide +kernel) ⟨Nat.le_of_ble_eq_true rfl, Nat.le_of_ble_eq_true rfl⟩) ⟨fun v U g mk z => z, fun U hU hW => ⟨rfl, by show U.heap.size = H.size; rw [hU]⟩⟩ rfl rfl hl.1 rfl (lv_room (Nat.le_of_ble_eq_true rfl)) dL_write_24 ⟨Nat.le_of_ble_eq_true rfl, Nat.le_of_ble_eq_true rfl⟩) hw hA (fun r H locs hrr hw => ?_)
      have hr9 : r.toInt ≤ 8 := by have := hrr.2; rw [show (9 : Int32).toInt = 9 from rfl] at this; omega
      have hra : (1 + r).toInt = 1 + r.toInt := by rw [ti_add (by show _ ≤ (1 : Int) + _; omega) (by show (1 : Int) + _ ≤ _; omega)]; rfl
      refine lv_iadd hx hb dL_write_27 ?_
      refine sc_i (sr_V (i := 0) (As := [.int (nI k), .int (1 + r)]) (rest := []) ⟨hx, hb, hml, hown, hts⟩ (zX3_area l D a cs τ k hk (1 + r) (fun hh => by have := ti_lt.mp hh; rw [show (1 : Int32).toInt = 1 from rfl] at this; omega) (ti_le.mpr (by rw [show (9 : Int32).toInt = 9 from rfl]; omega)) (by rw [hv.2.1 1]; decide) _) (cwV 2 hts gL_write_X3_area rfl rfl rfl (by decide +kernel) ⟨Nat.le_of_ble_eq_true rfl, Nat.le_of_ble_eq_true rfl⟩) hK hN hw (by omega) sE_o kcX3 rfl hl.1 (Nat.le_of_ble_eq_true rfl) dL_write_28 ⟨Nat.le_of_ble_eq_true rfl, Nat.le_of_ble_eq_true rfl⟩) hw hA (fun H locs hw => ?_)
      have hv := vI_area (x := 1 + r) hv hk (by omega) (by omega)
      generalize (va_up τ (5 + 8 * 0 + k) (upd (τ (5 + 8 * 0 + k)) 0 (1 + r)) : sS) = τ1 at hv hw
      refine lv_pop hx hb dL_write_31 rfl ?_
      refine lv_aload_n hx hb dL_write_32 rfl (lv_at hl 1 rfl) ?_
      refine lv_iload_n hx hb dL_write_33 rfl (lv_at hl 4 rfl) ?_
      refine lv_iload hx hb dL_write_34 (lv_at hl 0 rfl) ?_
      refine lv_iconst (v := 2) hx hb dL_write_36 (by decide) ?_
      refine lv_ishr hx hb dL_write_37 ?_
      refine lv_topi (fun v2 _ => ?_)
      refine lv_iconst (v := 4) hx hb dL_write_38 (by decide) ?_
      refine bc_i (va_runS (As := [.int v2, .int 4]) (rest := [.int (nI k), .ref (a 0)]) ⟨hx, hb, hml, hown, hts⟩ (zL_below l v2 4 (by decide) H.size) (va_cwS 2 hts gL_write_L_below rfl rfl rfl (by decide +kernel) ⟨Nat.le_of_ble_eq_true rfl, Nat.le_of_ble_eq_true rfl⟩) ⟨fun v U g mk z => z, fun U hU hW => ⟨rfl, by show U.heap.size = H.size; rw [hU]⟩⟩ rfl rfl hl.1 rfl (lv_room (Nat.le_of_ble_eq_true rfl)) dL_write_39 ⟨Nat.le_of_ble_eq_true rfl, Nat.le_of_ble_eq_true rfl⟩) hw hA (fun r2 H locs hrr2 hw => ?_)
      have gate : ∀ (g : Int32) (H : Heap) (locs : List Loc), g = 0 ∨ g = 1 → sH D a cs (sA a s.heap.size) s.heap τ1 H locs → W p l e { frames := 3, cells := 0, slots := 0, locals := 80 } s m #[.ref (a 0), .ref b, .int 5] below meth c H locs 0 0 (MQ below (wQ D a cs s.heap.size) #[.ref (a 0), .ref b, .int 5] s 0 0 (sA a s.heap.size)) (F0 m 50 ls [.int g, .int (nI k), .ref (a 0)]) := by
        intro g H locs hg hw
        refine sc_i (sr_V (i := 0) (As := [.int (nI k), .int g]) (rest := []) ⟨hx, hb, hml, hown, hts⟩ (zX3_gate l D a cs τ1 k hk g hg (hv.1 k hk).2.2.2.1 _) (cwV 2 hts gL_write_X3_gate rfl rfl rfl (by decide +kernel) ⟨Nat.le_of_ble_eq_true rfl, Nat.le_of_ble_eq_true rfl⟩) hK hN hw (by omega) sE_o kcX3 rfl hl.1 (Nat.le_of_ble_eq_true rfl) dL_write_50 ⟨Nat.le_of_ble_eq_true rfl, Nat.le_of_ble_eq_true rfl⟩) hw hA (fun H locs hw => ?_)
        refine lv_pop hx hb dL_write_53 rfl ?_
        refine lv_iinc (v := nI (k + 1)) (lv' := [(3, .int (nI (k + 1))), (4, .int v), (0, .ref (a 0)), (1, .ref b), (2, .int 5)]) hx hb dL_write_54 hl (k := 4) rfl (nI_1 k) (by decide) rfl (fun ls hl => ?_)
        refine lv_goto (tgt := 2) hx hb dL_write_57 (by decide) ?_
        exact ih (k + 1) _ H locs ls (by omega) (vI_gate hv hk hg) hw (lv_sub hl [2, 3, 4, 0] rfl)
      refine lv_if_le (tgt := 49) hx hb dL_write_42 (by decide) (fun _ => ?_) (fun _ => ?_)
      · refine lv_iconst (v := 0) hx hb dL_write_49 (by decide) ?_
        exact gate 0 H locs (Or.inl rfl) hw
      · refine lv_iconst (v := 1) hx hb dL_write_45 (by decide) ?_
        refine lv_goto (tgt := 50) hx hb dL_write_46 (by decide) ?_
        exact gate 1 H locs (Or.inr rfl) hw
  exact ponds 8 0 σ s.heap [] ls (by decide) h0 hw (lv_sub hl [1, 2, 3, 0] rfl)
