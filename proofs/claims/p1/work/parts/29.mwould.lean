theorem mX6_tideFrom_0 : (Cond.fieldLink RX6 18 "SaltRowModel" "row" "LSaltRowModel$Row;") ∈ wsX6_tideFrom := by decide +kernel
theorem iX6_tideFrom_X6 : ∀ w ∈ wsX60, w ∈ wsX6_tideFrom := by decide +kernel
theorem mX6_tideFrom_2 : (Cond.fieldLink RX6 54 "SaltRowModel$Row" "day" "I") ∈ wsX6_tideFrom := by decide +kernel
theorem iX6_tideFrom_X5 : ∀ w ∈ wsX50, w ∈ wsX6_tideFrom := by decide +kernel
set_option maxHeartbeats 4000000 in
set_option maxRecDepth 100000 in
theorem zX6_tideFrom (l : Launch) (D : va_G) (a : Nat → Nat) (cs : Nat → ClassId) (N : Nat) (hN : 12 ≤ N) (σ : sS) (hd0 : σ 0 1 = 0) (x h : Int32) : mMi l yX6_tideFrom wsX6_tideFrom ({ frames := 2, cells := 0, slots := 0, locals := 45 }) 0 0 D a cs N [.ref (a 10), .int x, .int h] σ (g_X6_tideV x h 14 0) σ := by
  intro sz
  refine Met.ofW (cc := cX6_tideFrom) (maxL := 4) (ret := (some .int)) (by decide) rfl ?_
  intro p e s m args below meth c s₁ B hml hv
  obtain ⟨rfl, hsz, hv2⟩ := hv
  have hv3 : mB D a cs N σ sz s := ⟨hsz, hv2⟩
  subst hsz
  have hw := mH_start hv3
  obtain ⟨-, -, hK, -, hN2⟩ := hv3
  have hx := B.exec
  have hb := B.bytes
  have hr := B.returns
  have hts := atoms_spec (ws := wsX6_tideFrom) B.pre
  have hown : s.vm.findClass RX6 = some m.cls := findClass_of_methodNamed B.named
  have hlocks := B.notSynchronized
  have hA : ∀ q : Nat, s.heap.size ≤ q → mA a N s.heap.size q := mA_new
  have hl := lv_entry ([.ref (a 10), .int x, .int h]) (n := 4) (Nat.le_of_ble_eq_true rfl)
  rw [lg_entry_eq]
  generalize (lg_sl ([.ref (a 10), .int x, .int h]) ++ List.replicate (4 - (lg_sl ([.ref (a 10), .int x, .int h])).length) Slot.unset).toArray = ls at hl ⊢
  have hl : lv_has ls 4 [(0, .ref (a 10)), (1, .int x), (2, .int h)] := hl
  refine lv_aload_n hx hb dX6_tideFrom_0 rfl (lv_at hl 0 rfl) ?_
  refine mg_o1 hx hb hts iX6_tideFrom_X6 hown hK hw (by omega) (hts _ mX6_tideFrom_0) dX6_tideFrom_1 ?_
  refine mg_r hx hb hts iX6_tideFrom_X5 hown hK hw (by omega) 1 (by decide) (hts _ mX6_tideFrom_2) dX6_tideFrom_4 ?_
  refine lv_istore_n (lv' := [(3, .int (σ 0 1)), (0, .ref (a 10)), (1, .int x), (2, .int h)]) hx hb dX6_tideFrom_7 rfl hl (by decide) rfl (fun ls hl => ?_)
  rw [hd0] at hl
  have loop : ∀ (n : Nat) (k : Nat) (τ : sS)  (H : Heap) (locs : List Loc) (ls : Array Slot), k + n = 14 ∧ τ 0 1 = 0 → mH D a cs N (mA a N s.heap.size) s.heap τ ([]) H locs → lv_has ls 4 [(0, .ref (a 10)), (1, .int x), (2, .int h), (3, .int (nI k))] → ∀ (V' : Int32) (S' : sS), g_X6_tideV x h n k = V' → τ = S' → W p l e { frames := 2, cells := 0, slots := 0, locals := 45 } s m #[Value.ref (a 10), Value.int x, Value.int h] below meth c H locs 0 0 (MQ below (va_Qi (fun r (_ : Unit) => r = V') (fun _ t => va_P D vwCl (mW N a cs S') t.heap) (mA a N s.heap.size)) #[Value.ref (a 10), Value.int x, Value.int h] s 0 0 (mA a N s.heap.size)) (F0 m 8 ls []) := by
    intro n
    induction n with
    | zero =>
      intro k τ  H locs ls hkn hw hl V' S' hV hS
      refine lv_iload_n hx hb dX6_tideFrom_8 rfl (lv_at hl 3 rfl) ?_
      refine lv_aload_n hx hb dX6_tideFrom_9 rfl (lv_at hl 0 rfl) ?_
      refine mg_o1 hx hb hts iX6_tideFrom_X6 hown hK hw (by omega) (hts _ mX6_tideFrom_0) dX6_tideFrom_10 ?_
      refine mg_r hx hb hts iX6_tideFrom_X5 hown hK hw (by omega) 1 (by decide) (hts _ mX6_tideFrom_2) dX6_tideFrom_13 ?_
      refine lv_bipush (v := 14) hx hb dX6_tideFrom_16 (by decide) ?_
      refine lv_iadd hx hb dX6_tideFrom_18 ?_
      refine lv_icmp_ge (tgt := 53) hx hb dX6_tideFrom_19 (by decide) (fun c1 => ?_) (fun c1 => absurd (by rw [hkn.2, show k = 14 by omega]; decide) c1)
      refine lv_iconst (v := -1) hx hb dX6_tideFrom_53 (by decide) ?_
      exact me_i hx hb hr hlocks hw (by exact hV) (by exact hS) dX6_tideFrom_54
    | succ n ih =>
      intro k τ  H locs ls hkn hw hl V' S' hV hS
      refine lv_iload_n hx hb dX6_tideFrom_8 rfl (lv_at hl 3 rfl) ?_
      refine lv_aload_n hx hb dX6_tideFrom_9 rfl (lv_at hl 0 rfl) ?_
      refine mg_o1 hx hb hts iX6_tideFrom_X6 hown hK hw (by omega) (hts _ mX6_tideFrom_0) dX6_tideFrom_10 ?_
      refine mg_r hx hb hts iX6_tideFrom_X5 hown hK hw (by omega) 1 (by decide) (hts _ mX6_tideFrom_2) dX6_tideFrom_13 ?_
      refine lv_bipush (v := 14) hx hb dX6_tideFrom_16 (by decide) ?_
      refine lv_iadd hx hb dX6_tideFrom_18 ?_
      refine lv_icmp_ge (tgt := 53) hx hb dX6_tideFrom_19 (by decide) (fun c2 => absurd c2 (by rw [hkn.2, show (0 : Int32) + 14 = nI 14 from rfl]; exact nI_ge (by omega) (by decide))) (fun c2 => ?_)
      refine lv_iload_n hx hb dX6_tideFrom_22 rfl (lv_at hl 2 rfl) ?_
      refine lv_if_eq (tgt := 37) hx hb dX6_tideFrom_23 (by decide) (fun c3 => ?_) (fun c3 => ?_)
      · refine lv_iload_n hx hb dX6_tideFrom_37 rfl (lv_at hl 3 rfl) ?_
        refine mc_i (mr_S (As := [.int (nI k)]) (rest := []) ⟨hx, hb, hml, hown, hts⟩ (zX6_tideOf l D a cs N (by omega) _ (nI k) _) (va_cwS 1 hts gX6_tideFrom_X6_tideOf rfl rfl rfl (by decide +kernel) ⟨Nat.le_of_ble_eq_true rfl, Nat.le_of_ble_eq_true rfl⟩) hK hN2 hw rfl hl.1 (Nat.le_of_ble_eq_true rfl) dX6_tideFrom_38 ⟨Nat.le_of_ble_eq_true rfl, Nat.le_of_ble_eq_true rfl⟩) hw hA (fun H locs hw => ?_)
        refine lv_iload_n hx hb dX6_tideFrom_41 rfl (lv_at hl 1 rfl) ?_
        refine lv_icmp_gt (tgt := 47) hx hb dX6_tideFrom_42 (by decide) (fun c4 => ?_) (fun c4 => ?_)
        · refine lv_iinc (v := nI (k + 1)) (lv' := [(3, .int (nI (k + 1))), (0, .ref (a 10)), (1, .int x), (2, .int h)]) hx hb dX6_tideFrom_47 hl (k := 3) rfl (nI_1 k) (by decide) rfl (fun ls hl => ?_)
          refine lv_goto (tgt := 8) hx hb dX6_tideFrom_50 (by decide) ?_
          have hstep : τ = τ := by
            rfl
          have hstepv : g_X6_tideV x h (n + 1) k = g_X6_tideV x h n (k + 1) := by
            simp only [g_X6_tideV, if_pos c3, if_pos c4]
          exact ih (k + 1) τ  H locs ls ⟨by omega, hkn.2⟩ hw (lv_sub hl [1, 2, 3, 0] rfl) V' S' (by rw [← hstepv]; exact hV) (by rw [← hstep]; exact hS)
        · refine lv_iload_n hx hb dX6_tideFrom_45 rfl (lv_at hl 3 rfl) ?_
          have hq1 : g_X6_tideV x h (n + 1) k = nI k := by
            simp only [g_X6_tideV, if_pos c3, if_neg c4]
          have hq2 : τ = τ := by
            rfl
          exact me_i hx hb hr hlocks hw (by rw [← hq1]; exact hV) (by rw [← hq2]; exact hS) dX6_tideFrom_46
      · refine lv_iload_n hx hb dX6_tideFrom_26 rfl (lv_at hl 3 rfl) ?_
        refine mc_i (mr_S (As := [.int (nI k)]) (rest := []) ⟨hx, hb, hml, hown, hts⟩ (zX6_tideOf l D a cs N (by omega) _ (nI k) _) (va_cwS 1 hts gX6_tideFrom_X6_tideOf rfl rfl rfl (by decide +kernel) ⟨Nat.le_of_ble_eq_true rfl, Nat.le_of_ble_eq_true rfl⟩) hK hN2 hw rfl hl.1 (Nat.le_of_ble_eq_true rfl) dX6_tideFrom_27 ⟨Nat.le_of_ble_eq_true rfl, Nat.le_of_ble_eq_true rfl⟩) hw hA (fun H locs hw => ?_)
        refine lv_iload_n hx hb dX6_tideFrom_30 rfl (lv_at hl 1 rfl) ?_
        refine lv_icmp_lt (tgt := 47) hx hb dX6_tideFrom_31 (by decide) (fun c5 => ?_) (fun c5 => ?_)
        · refine lv_iinc (v := nI (k + 1)) (lv' := [(3, .int (nI (k + 1))), (0, .ref (a 10)), (1, .int x), (2, .int h)]) hx hb dX6_tideFrom_47 hl (k := 3) rfl (nI_1 k) (by decide) rfl (fun ls hl => ?_)
          refine lv_goto (tgt := 8) hx hb dX6_tideFrom_50 (by decide) ?_
          have hstep : τ = τ := by
            rfl
          have hstepv : g_X6_tideV x h (n + 1) k = g_X6_tideV x h n (k + 1) := by
            simp only [g_X6_tideV, if_neg c3, if_pos c5]
          exact ih (k + 1) τ  H locs ls ⟨by omega, hkn.2⟩ hw (lv_sub hl [1, 2, 3, 0] rfl) V' S' (by rw [← hstepv]; exact hV) (by rw [← hstep]; exact hS)
        · refine lv_goto (tgt := 45) hx hb dX6_tideFrom_34 (by decide) ?_
          refine lv_iload_n hx hb dX6_tideFrom_45 rfl (lv_at hl 3 rfl) ?_
          have hq1 : g_X6_tideV x h (n + 1) k = nI k := by
            simp only [g_X6_tideV, if_neg c3, if_neg c5]
          have hq2 : τ = τ := by
            rfl
          exact me_i hx hb hr hlocks hw (by rw [← hq1]; exact hV) (by rw [← hq2]; exact hS) dX6_tideFrom_46
  exact loop 14 0 σ  _ _ _ ⟨by decide, hd0⟩ hw (lv_sub hl [1, 2, 3, 0] rfl) _ _ rfl rfl
set_option maxHeartbeats 4000000 in
set_option maxRecDepth 100000 in
theorem zX6_tideOn_2 (l : Launch) (D : va_G) (a : Nat → Nat) (cs : Nat → ClassId) (N : Nat) (hN : 12 ≤ N) (σ : sS) (hd0 : σ 0 1 = 0) (x y : Int32) (hy : g_X6_isIn x 0 20 = 1) : mMi l yX6_tideOn wsX6_tideOn ({ frames := 3, cells := 0, slots := 0, locals := 68 }) 0 0 D a cs N [.ref (a 10), .int x, .int y] σ (g_X6_tideV x y 14 0) (m_thr σ 0) := by
  intro sz
  refine Met.ofW (cc := cX6_tideOn) (maxL := 3) (ret := (some .int)) (by decide) rfl ?_
  intro p e s m args below meth c s₁ B hml hv
  obtain ⟨rfl, hsz, hv2⟩ := hv
  have hv3 : mB D a cs N σ sz s := ⟨hsz, hv2⟩
  subst hsz
  have hw := mH_start hv3
  obtain ⟨-, -, hK, -, hN2⟩ := hv3
  have hx := B.exec
  have hb := B.bytes
  have hr := B.returns
  have hts := atoms_spec (ws := wsX6_tideOn) B.pre
  have hown : s.vm.findClass RX6 = some m.cls := findClass_of_methodNamed B.named
  have hlocks := B.notSynchronized
  have hA : ∀ q : Nat, s.heap.size ≤ q → mA a N s.heap.size q := mA_new
  have hl := lv_entry ([.ref (a 10), .int x, .int y]) (n := 3) (Nat.le_of_ble_eq_true rfl)
  rw [lg_entry_eq]
  generalize (lg_sl ([.ref (a 10), .int x, .int y]) ++ List.replicate (3 - (lg_sl ([.ref (a 10), .int x, .int y])).length) Slot.unset).toArray = ls at hl ⊢
  have hl : lv_has ls 3 [(0, .ref (a 10)), (1, .int x), (2, .int y)] := hl
  refine lv_aload_n hx hb dX6_tideOn_0 rfl (lv_at hl 0 rfl) ?_
  refine lv_iload_n hx hb dX6_tideOn_1 rfl (lv_at hl 1 rfl) ?_
  refine lv_iconst (v := 0) hx hb dX6_tideOn_2 (by decide) ?_
  refine lv_bipush (v := 20) hx hb dX6_tideOn_3 (by decide) ?_
  refine mc_i (mr_S (As := [.int x, .int 0, .int 20]) (rest := [.ref (a 10)]) ⟨hx, hb, hml, hown, hts⟩ (zX6_isIn l D a cs N (by omega) _ x 0 20 _) (va_cwS 3 hts gX6_tideOn_X6_isIn rfl rfl rfl (by decide +kernel) ⟨Nat.le_of_ble_eq_true rfl, Nat.le_of_ble_eq_true rfl⟩) hK hN2 hw rfl hl.1 (Nat.le_of_ble_eq_true rfl) dX6_tideOn_5 ⟨Nat.le_of_ble_eq_true rfl, Nat.le_of_ble_eq_true rfl⟩) hw hA (fun H locs hw => ?_)
  refine lv_if_ne (tgt := 15) hx hb dX6_tideOn_8 (by decide) (fun c1 => ?_) (fun c1 => absurd c1 (by rw [hy]; decide))
  refine lv_iconst (v := 0) hx hb dX6_tideOn_15 (by decide) ?_
  refine lv_iconst (v := 1) hx hb dX6_tideOn_16 (by decide) ?_
  refine mc_i (mr_V (i := 10) (As := [.int 0, .int 1]) (rest := []) ⟨hx, hb, hml, hown, hts⟩ (zX6_start0 l D a cs N (by omega) _ 0 1 rfl  _) (cwV 2 hts gX6_tideOn_X6_start rfl rfl rfl (by decide +kernel) ⟨Nat.le_of_ble_eq_true rfl, Nat.le_of_ble_eq_true rfl⟩) hK hN2 hw (by omega) mE_o kcX6 rfl hl.1 (Nat.le_of_ble_eq_true rfl) dX6_tideOn_17 ⟨Nat.le_of_ble_eq_true rfl, Nat.le_of_ble_eq_true rfl⟩) hw hA (fun H locs hw => ?_)
  obtain ⟨τ2, eτ2⟩ : ∃ zz : sS, m_thr σ 0 = zz := ⟨_, rfl⟩
  rw [eτ2] at hw
  refine lv_if_eq (tgt := 27) hx hb dX6_tideOn_20 (by decide) (fun c3 => ?_) (fun c3 => absurd (by decide) c3)
  refine lv_aload_n hx hb dX6_tideOn_27 rfl (lv_at hl 0 rfl) ?_
  refine lv_iload_n hx hb dX6_tideOn_28 rfl (lv_at hl 1 rfl) ?_
  refine lv_iload_n hx hb dX6_tideOn_29 rfl (lv_at hl 2 rfl) ?_
  refine mc_i (mr_V (i := 10) (As := [.int x, .int y]) (rest := []) ⟨hx, hb, hml, hown, hts⟩ (zX6_tideFrom l D a cs N (by omega) _ (by subst eτ2; exact hd0) x y _) (cwV 2 hts gX6_tideOn_X6_tideFrom rfl rfl rfl (by decide +kernel) ⟨Nat.le_of_ble_eq_true rfl, Nat.le_of_ble_eq_true rfl⟩) hK hN2 hw (by omega) mE_o kcX6 rfl hl.1 (Nat.le_of_ble_eq_true rfl) dX6_tideOn_30 ⟨Nat.le_of_ble_eq_true rfl, Nat.le_of_ble_eq_true rfl⟩) hw hA (fun H locs hw => ?_)
  exact me_i hx hb hr hlocks hw (by subst eτ2; rfl) (by subst eτ2; rfl) dX6_tideOn_33
theorem mX6_crustBehind_0 : (Cond.fieldLink RX6 18 "SaltRowModel" "row" "LSaltRowModel$Row;") ∈ wsX6_crustBehind := by decide +kernel
theorem iX6_crustBehind_X6 : ∀ w ∈ wsX60, w ∈ wsX6_crustBehind := by decide +kernel
set_option maxHeartbeats 4000000 in
set_option maxRecDepth 100000 in
theorem zX6_crustBehind (l : Launch) (D : va_G) (a : Nat → Nat) (cs : Nat → ClassId) (N : Nat) (hN : 12 ≤ N) (σ : sS) (hz : mZ σ) (har : mAr σ) (q : Nat) (hq : q < 3) (x y : Int32) : mMi l yX6_crustBehind wsX6_crustBehind ({ frames := 4, cells := 78, slots := 667, locals := 99 }) 78 667 D a cs N [.ref (a 10), .int (nI (5 + q)), .int x, .int y] σ (g_X6_crustB σ q x y) σ := by
  intro sz
  refine Met.ofW (cc := cX6_crustBehind) (maxL := 6) (ret := (some .int)) (by decide) rfl ?_
  intro p e s m args below meth c s₁ B hml hv
  obtain ⟨rfl, hsz, hv2⟩ := hv
  have hv3 : mB D a cs N σ sz s := ⟨hsz, hv2⟩
  subst hsz
  have hw := mH_start hv3
  obtain ⟨-, -, hK, -, hN2⟩ := hv3
  have hx := B.exec
  have hb := B.bytes
  have hr := B.returns
  have hts := atoms_spec (ws := wsX6_crustBehind) B.pre
  have hown : s.vm.findClass RX6 = some m.cls := findClass_of_methodNamed B.named
  have hlocks := B.notSynchronized
  have hA : ∀ q : Nat, s.heap.size ≤ q → mA a N s.heap.size q := mA_new
  have hl := lv_entry ([.ref (a 10), .int (nI (5 + q)), .int x, .int y]) (n := 6) (Nat.le_of_ble_eq_true rfl)
  rw [lg_entry_eq]
  generalize (lg_sl ([.ref (a 10), .int (nI (5 + q)), .int x, .int y]) ++ List.replicate (6 - (lg_sl ([.ref (a 10), .int (nI (5 + q)), .int x, .int y])).length) Slot.unset).toArray = ls at hl ⊢
  have hl : lv_has ls 6 [(0, .ref (a 10)), (1, .int (nI (5 + q))), (2, .int x), (3, .int y)] := hl
  refine lv_aload_n hx hb dX6_crustBehind_0 rfl (lv_at hl 0 rfl) ?_
  refine mg_o1 hx hb hts iX6_crustBehind_X6 hown hK hw (by omega) (hts _ mX6_crustBehind_0) dX6_crustBehind_1 ?_
  refine mc_copy (mr_V (i := 0) (As := []) (rest := []) ⟨hx, hb, hml, hown, hts⟩ (zX5_copy l D a cs N (by omega) _ hz _) (cwV 0 hts gX6_crustBehind_X5_copy rfl rfl rfl (by decide +kernel) ⟨Nat.le_of_ble_eq_true rfl, Nat.le_of_ble_eq_true rfl⟩) hK hN2 hw (by omega) mE_r kcX5 rfl hl.1 (Nat.le_of_ble_eq_true rfl) dX6_crustBehind_4 ⟨Nat.le_of_ble_eq_true rfl, Nat.le_of_ble_eq_true rfl⟩) hw hA (fun u H locs hw => ?_)
  obtain ⟨τ1, eτ1⟩ : ∃ zz : sS, g_copy σ = zz := ⟨_, rfl⟩
  rw [eτ1] at hw
  refine lv_astore (lv' := [(4, .ref (u 0)), (0, .ref (a 10)), (1, .int (nI (5 + q))), (2, .int x), (3, .int y)]) hx hb dX6_crustBehind_7 hl (by decide) rfl (fun ls hl => ?_)
  refine lv_iconst (v := 1) hx hb dX6_crustBehind_9 (by decide) ?_
  refine lv_istore (lv' := [(5, .int 1), (4, .ref (u 0)), (0, .ref (a 10)), (1, .int (nI (5 + q))), (2, .int x), (3, .int y)]) hx hb dX6_crustBehind_10 hl (by decide) rfl (fun ls hl => ?_)
  have loop : ∀ (n : Nat) (k : Nat) (τ : sS)  (H : Heap) (locs : List Loc) (ls : Array Slot), k + n = 61 ∧ mAr τ → mH D u cs 10 (mA a N s.heap.size) s.heap τ (mW N a cs σ) H locs → lv_has ls 6 [(0, .ref (a 10)), (1, .int (nI (5 + q))), (2, .int x), (3, .int y), (4, .ref (u 0)), (5, .int (nI k))] → ∀ (V' : Int32) (S' : sS), g_X6_crustV q x y n k τ = V' → σ = S' → W p l e { frames := 4, cells := 78, slots := 667, locals := 99 } s m #[Value.ref (a 10), Value.int (nI (5 + q)), Value.int x, Value.int y] below meth c H locs (17 + k) (179 + 8 * k) (MQ below (va_Qi (fun r (_ : Unit) => r = V') (fun _ t => va_P D vwCl (mW N a cs S') t.heap) (mA a N s.heap.size)) #[Value.ref (a 10), Value.int (nI (5 + q)), Value.int x, Value.int y] s 78 667 (mA a N s.heap.size)) (F0 m 12 ls []) := by
    intro n
    induction n with
    | zero =>
      intro k τ  H locs ls hkn hw hl V' S' hV hS
      refine lv_iload hx hb dX6_crustBehind_12 (lv_at hl 5 rfl) ?_
      refine lv_bipush (v := 60) hx hb dX6_crustBehind_14 (by decide) ?_
      refine lv_icmp_gt (tgt := 41) hx hb dX6_crustBehind_16 (by decide) (fun c2 => ?_) (fun c2 => absurd (by rw [show k = 61 by omega]; decide) c2)
      refine lv_iconst (v := -1) hx hb dX6_crustBehind_41 (by decide) ?_
      have hw := mH_swap hw
      refine W.widen (k := 78) (n := 667) (by omega) (by omega) ?_
      exact me_i hx hb hr hlocks hw (by exact hV) (by exact hS) dX6_crustBehind_42
    | succ n ih =>
      intro k τ  H locs ls hkn hw hl V' S' hV hS
      refine lv_iload hx hb dX6_crustBehind_12 (lv_at hl 5 rfl) ?_
      refine lv_bipush (v := 60) hx hb dX6_crustBehind_14 (by decide) ?_
      refine lv_icmp_gt (tgt := 41) hx hb dX6_crustBehind_16 (by decide) (fun c3 => absurd c3 (nI_nlt (a := 60) (b := k) (by omega) (by decide))) (fun c3 => ?_)
      refine lv_aload hx hb dX6_crustBehind_19 (lv_at hl 4 rfl) ?_
      refine lv_iload_n hx hb dX6_crustBehind_21 rfl (lv_at hl 2 rfl) ?_
      refine lv_iload_n hx hb dX6_crustBehind_22 rfl (lv_at hl 3 rfl) ?_
      refine lv_iconst (v := 0) hx hb dX6_crustBehind_23 (by decide) ?_
      refine mc_r (mr_V (i := 0) (As := [.int x, .int y, .int 0]) (rest := []) ⟨hx, hb, hml, hown, hts⟩ (zX5_day l D u cs 10 (by omega) _ hkn.2 x y 0 _) (cwV 3 hts gX6_crustBehind_X5_day rfl rfl rfl (by decide +kernel) ⟨Nat.le_of_ble_eq_true rfl, Nat.le_of_ble_eq_true rfl⟩) hK hN2 hw (by omega) mE_r kcX5 rfl hl.1 (Nat.le_of_ble_eq_true rfl) dX6_crustBehind_24 ⟨by show (17 + k) + 1 ≤ 78; omega, by show (179 + 8 * k) + 8 ≤ 667; omega⟩) hw hA (fun q4 H locs hw => ?_)
      obtain ⟨τ5, eτ5⟩ : ∃ zz : sS, g_X5_day τ x y 0 = zz := ⟨_, rfl⟩
      rw [eτ5] at hw
      refine lv_iload_n hx hb dX6_crustBehind_27 rfl (lv_at hl 1 rfl) ?_
      refine mx_ld (n := 8) (k := (5 + q)) (f := (g_X5_made τ x y 0)) hx hb hK hw (N + 0) (by rw [mX_x]; rfl) (by omega) (by decide) rfl dX6_crustBehind_28 ?_
      have hw := mH_dropx hw
      refine lv_if_le (tgt := 35) hx hb dX6_crustBehind_29 (by decide) (fun c6 => ?_) (fun c6 => ?_)
      · refine lv_iinc (v := nI (k + 1)) (lv' := [(5, .int (nI (k + 1))), (0, .ref (a 10)), (1, .int (nI (5 + q))), (2, .int x), (3, .int y), (4, .ref (u 0))]) hx hb dX6_crustBehind_35 hl (k := 5) rfl (nI_1 k) (by decide) rfl (fun ls hl => ?_)
        refine lv_goto (tgt := 12) hx hb dX6_crustBehind_38 (by decide) ?_
        have hstep : σ = σ := by
          subst eτ5; rfl
        have hstepv : g_X6_crustV q x y (n + 1) k τ = g_X6_crustV q x y n (k + 1) τ5 := by
          subst eτ5; simp only [g_X6_crustV, if_pos c6]
        refine W.widen (k := 17 + (k + 1)) (n := 179 + 8 * (k + 1)) (by omega) (by omega) ?_
        exact ih (k + 1) τ5  H locs ls ⟨by omega, by subst eτ5; exact mAr_day hkn.2⟩ hw (lv_sub hl [1, 2, 3, 4, 5, 0] rfl) V' S' (by rw [← hstepv]; exact hV) (by rw [← hstep]; exact hS)
      · refine lv_iload hx hb dX6_crustBehind_32 (lv_at hl 5 rfl) ?_
        have hw := mH_swap hw
        refine W.widen (k := 78) (n := 667) (by omega) (by omega) ?_
        have hq1 : g_X6_crustV q x y (n + 1) k τ = nI k := by
          subst eτ5; simp only [g_X6_crustV, if_neg c6]
        have hq2 : σ = σ := by
          subst eτ5; rfl
        exact me_i hx hb hr hlocks hw (by rw [← hq1]; exact hV) (by rw [← hq2]; exact hS) dX6_crustBehind_34
  subst eτ1; exact loop 60 1 _  _ _ _ ⟨by decide, (by exact mAr_copy har)⟩ hw (lv_sub hl [2, 3, 4, 5, 1, 0] rfl) _ _ rfl rfl
theorem mX6_saltWith_0 : (Cond.fieldLink RX6 18 "SaltRowModel" "row" "LSaltRowModel$Row;") ∈ wsX6_saltWith := by decide +kernel
theorem iX6_saltWith_X6 : ∀ w ∈ wsX60, w ∈ wsX6_saltWith := by decide +kernel
theorem mX6_saltWith_2 : (Cond.fieldLink RX6 57 "SaltRowModel$Row" "ponds" "[LSaltRowModel$Pond;") ∈ wsX6_saltWith := by decide +kernel
theorem iX6_saltWith_X5 : ∀ w ∈ wsX50, w ∈ wsX6_saltWith := by decide +kernel
theorem mX6_saltWith_4 : (Cond.fieldLink RX6 66 "SaltRowModel$Pond" "isOpen" "Z") ∈ wsX6_saltWith := by decide +kernel
theorem iX6_saltWith_X4 : ∀ w ∈ wsX40, w ∈ wsX6_saltWith := by decide +kernel
theorem mX6_saltWith_6 : (Cond.fieldLink RX6 100 "SaltRowModel$Pond" "salt" "I") ∈ wsX6_saltWith := by decide +kernel
theorem mX6_saltWith_7 : (Cond.fieldLink RX6 156 "SaltRowModel$Pond" "crust" "I") ∈ wsX6_saltWith := by decide +kernel
set_option maxHeartbeats 4000000 in
set_option maxRecDepth 100000 in
theorem zX6_saltWith (l : Launch) (D : va_G) (a : Nat → Nat) (cs : Nat → ClassId) (N : Nat) (hN : 12 ≤ N) (σ : sS) (hz : mZ σ) (har : mAr σ) (g d : Nat) (hd9 : d ≤ 9) (x y : Int32) : mMi l yX6_saltWith wsX6_saltWith ({ frames := 4, cells := 27, slots := 259, locals := 99 }) 27 259 D a cs N [.ref (a 10), .int (nI g), .int (nI d), .int x, .int y] σ (g_X6_withV σ g d x y) σ := by
  intro sz
  refine Met.ofW (cc := cX6_saltWith) (maxL := 8) (ret := (some .int)) (by decide) rfl ?_
  intro p e s m args below meth c s₁ B hml hv
  obtain ⟨rfl, hsz, hv2⟩ := hv
  have hv3 : mB D a cs N σ sz s := ⟨hsz, hv2⟩
  subst hsz
  have hw := mH_start hv3
  obtain ⟨-, -, hK, -, hN2⟩ := hv3
  have hx := B.exec
  have hb := B.bytes
  have hr := B.returns
  have hts := atoms_spec (ws := wsX6_saltWith) B.pre
  have hown : s.vm.findClass RX6 = some m.cls := findClass_of_methodNamed B.named
  have hlocks := B.notSynchronized
  have hA : ∀ q : Nat, s.heap.size ≤ q → mA a N s.heap.size q := mA_new
  have hl := lv_entry ([.ref (a 10), .int (nI g), .int (nI d), .int x, .int y]) (n := 8) (Nat.le_of_ble_eq_true rfl)
  rw [lg_entry_eq]
  generalize (lg_sl ([.ref (a 10), .int (nI g), .int (nI d), .int x, .int y]) ++ List.replicate (8 - (lg_sl ([.ref (a 10), .int (nI g), .int (nI d), .int x, .int y])).length) Slot.unset).toArray = ls at hl ⊢
  have hl : lv_has ls 8 [(0, .ref (a 10)), (1, .int (nI g)), (2, .int (nI d)), (3, .int x), (4, .int y)] := hl
  refine lv_aload_n hx hb dX6_saltWith_0 rfl (lv_at hl 0 rfl) ?_
  refine mg_o1 hx hb hts iX6_saltWith_X6 hown hK hw (by omega) (hts _ mX6_saltWith_0) dX6_saltWith_1 ?_
  refine mc_copy (mr_V (i := 0) (As := []) (rest := []) ⟨hx, hb, hml, hown, hts⟩ (zX5_copy l D a cs N (by omega) _ hz _) (cwV 0 hts gX6_saltWith_X5_copy rfl rfl rfl (by decide +kernel) ⟨Nat.le_of_ble_eq_true rfl, Nat.le_of_ble_eq_true rfl⟩) hK hN2 hw (by omega) mE_r kcX5 rfl hl.1 (Nat.le_of_ble_eq_true rfl) dX6_saltWith_4 ⟨Nat.le_of_ble_eq_true rfl, Nat.le_of_ble_eq_true rfl⟩) hw hA (fun u H locs hw => ?_)
  obtain ⟨τ1, eτ1⟩ : ∃ zz : sS, g_copy σ = zz := ⟨_, rfl⟩
  rw [eτ1] at hw
  refine lv_astore (lv' := [(5, .ref (u 0)), (0, .ref (a 10)), (1, .int (nI g)), (2, .int (nI d)), (3, .int x), (4, .int y)]) hx hb dX6_saltWith_7 hl (by decide) rfl (fun ls hl => ?_)
  refine lv_iconst (v := 0) hx hb dX6_saltWith_9 (by decide) ?_
  refine lv_istore (lv' := [(6, .int 0), (5, .ref (u 0)), (0, .ref (a 10)), (1, .int (nI g)), (2, .int (nI d)), (3, .int x), (4, .int y)]) hx hb dX6_saltWith_10 hl (by decide) rfl (fun ls hl => ?_)
  have loop : ∀ (Q : State → Prop) (n : Nat) (k : Nat) (τ : sS)  (H : Heap) (locs : List Loc) (ls : Array Slot), k + n = 8 ∧ mAr τ → mH D u cs 10 (mA a N s.heap.size) s.heap τ (mW N a cs σ) H locs → lv_has ls 8 [(0, .ref (a 10)), (1, .int (nI g)), (2, .int (nI d)), (3, .int x), (4, .int y), (5, .ref (u 0)), (6, .int (nI k))] → (∀ (H : Heap) (locs : List Loc) (ls : Array Slot), mH D u cs 10 (mA a N s.heap.size) s.heap (g_gates (nI g) n k τ) (mW N a cs σ) H locs → lv_has ls 8 [(2, .int (nI d)), (3, .int x), (4, .int y), (5, .ref (u 0))] → W p l e { frames := 4, cells := 27, slots := 259, locals := 99 } s m #[Value.ref (a 10), Value.int (nI g), Value.int (nI d), Value.int x, Value.int y] below meth c H locs 18 187 Q (F0 m 51 ls [])) → W p l e { frames := 4, cells := 27, slots := 259, locals := 99 } s m #[Value.ref (a 10), Value.int (nI g), Value.int (nI d), Value.int x, Value.int y] below meth c H locs 18 187 Q (F0 m 12 ls []) := by
    intro Q n
    induction n with
    | zero =>
      intro k τ  H locs ls hkn hw hl kont
      refine lv_iload hx hb dX6_saltWith_12 (lv_at hl 6 rfl) ?_
      refine lv_bipush (v := 8) hx hb dX6_saltWith_14 (by decide) ?_
      refine lv_icmp_ge (tgt := 51) hx hb dX6_saltWith_16 (by decide) (fun c2 => ?_) (fun c2 => absurd (by rw [show k = 8 by omega]; decide) c2)
      exact kont H locs ls hw (lv_sub hl [2, 3, 4, 5] rfl)
    | succ n ih =>
      intro k τ  H locs ls hkn hw hl kont
      refine lv_iload hx hb dX6_saltWith_12 (lv_at hl 6 rfl) ?_
      refine lv_bipush (v := 8) hx hb dX6_saltWith_14 (by decide) ?_
      refine lv_icmp_ge (tgt := 51) hx hb dX6_saltWith_16 (by decide) (fun c3 => absurd c3 (nI_ge (a := k) (b := 8) (by omega) (by decide))) (fun c3 => ?_)
      refine lv_aload hx hb dX6_saltWith_19 (lv_at hl 5 rfl) ?_
      refine mg_rq hx hb hts iX6_saltWith_X5 hown hK hw (by omega) (hts _ mX6_saltWith_2) dX6_saltWith_21 ?_
      refine lv_iload hx hb dX6_saltWith_24 (lv_at hl 6 rfl) ?_
      refine mg_q (k := k) hx hb hK hw (by omega) (by omega) rfl dX6_saltWith_26 ?_
      refine lv_iload_n hx hb dX6_saltWith_27 rfl (lv_at hl 1 rfl) ?_
      refine lv_iload hx hb dX6_saltWith_28 (lv_at hl 6 rfl) ?_
      refine lv_ishr hx hb dX6_saltWith_30 ?_
      refine lv_iconst (v := 1) hx hb dX6_saltWith_31 (by decide) ?_
      refine lv_iand hx hb dX6_saltWith_32 ?_
      refine lv_iconst (v := 1) hx hb dX6_saltWith_33 (by decide) ?_
      refine lv_icmp_ne (tgt := 41) hx hb dX6_saltWith_34 (by decide) (fun c4 => ?_) (fun c4 => ?_)
      · refine lv_iconst (v := 0) hx hb dX6_saltWith_41 (by decide) ?_
        refine mp_z hx hb hts iX6_saltWith_X4 hown hK hw (by omega) (by omega) 8 (Or.inl rfl) (by decide) (hts _ mX6_saltWith_4) dX6_saltWith_42 (fun H locs hw => ?_)
        obtain ⟨τ5, eτ5⟩ : ∃ zz : sS, va_up τ (2 + k) (upd (τ (2 + k)) 8 0) = zz := ⟨_, rfl⟩
        rw [eτ5] at hw
        refine lv_iinc (v := nI (k + 1)) (lv' := [(6, .int (nI (k + 1))), (0, .ref (a 10)), (1, .int (nI g)), (2, .int (nI d)), (3, .int x), (4, .int y), (5, .ref (u 0))]) hx hb dX6_saltWith_45 hl (k := 6) rfl (nI_1 k) (by decide) rfl (fun ls hl => ?_)
        refine lv_goto (tgt := 12) hx hb dX6_saltWith_48 (by decide) ?_
        have hstep : g_gates (nI g) (n + 1) k τ = g_gates (nI g) n (k + 1) τ5 := by
          subst eτ5; show g_gates (nI g) n (k + 1) (va_up τ (2 + k) (upd (τ (2 + k)) 8 (f_bit (nI g) k))) = _; unfold f_bit; rw [if_neg c4] <;> rfl
        exact ih (k + 1) τ5  H locs ls ⟨by omega, by subst eτ5; exact mAr_up hkn.2 rfl⟩ hw (lv_sub hl [1, 2, 3, 4, 5, 6, 0] rfl) (fun H locs ls hw hl => kont H locs ls (by rw [hstep]; exact hw) (by exact hl))
      · refine lv_iconst (v := 1) hx hb dX6_saltWith_37 (by decide) ?_
        refine lv_goto (tgt := 42) hx hb dX6_saltWith_38 (by decide) ?_
        refine mp_z hx hb hts iX6_saltWith_X4 hown hK hw (by omega) (by omega) 8 (Or.inr rfl) (by decide) (hts _ mX6_saltWith_4) dX6_saltWith_42 (fun H locs hw => ?_)
        obtain ⟨τ6, eτ6⟩ : ∃ zz : sS, va_up τ (2 + k) (upd (τ (2 + k)) 8 1) = zz := ⟨_, rfl⟩
        rw [eτ6] at hw
        refine lv_iinc (v := nI (k + 1)) (lv' := [(6, .int (nI (k + 1))), (0, .ref (a 10)), (1, .int (nI g)), (2, .int (nI d)), (3, .int x), (4, .int y), (5, .ref (u 0))]) hx hb dX6_saltWith_45 hl (k := 6) rfl (nI_1 k) (by decide) rfl (fun ls hl => ?_)
        refine lv_goto (tgt := 12) hx hb dX6_saltWith_48 (by decide) ?_
        have hstep : g_gates (nI g) (n + 1) k τ = g_gates (nI g) n (k + 1) τ6 := by
          subst eτ6; show g_gates (nI g) n (k + 1) (va_up τ (2 + k) (upd (τ (2 + k)) 8 (f_bit (nI g) k))) = _; unfold f_bit; rw [if_pos c4] <;> rfl
        exact ih (k + 1) τ6  H locs ls ⟨by omega, by subst eτ6; exact mAr_up hkn.2 rfl⟩ hw (lv_sub hl [1, 2, 3, 4, 5, 6, 0] rfl) (fun H locs ls hw hl => kont H locs ls (by rw [hstep]; exact hw) (by exact hl))
  refine loop _ 8 0 τ1  _ _ _ ⟨by decide, (by subst eτ1; exact mAr_copy har)⟩ hw (lv_sub hl [2, 3, 4, 5, 6, 1, 0] rfl) (fun H locs ls hw hl => ?_)
  obtain ⟨τ7, eτ7⟩ : ∃ zz : sS, g_gates (nI g) 8 0 τ1 = zz := ⟨_, rfl⟩
  rw [eτ7] at hw
  refine lv_iconst (v := 0) hx hb dX6_saltWith_51 (by decide) ?_
  refine lv_istore (lv' := [(6, .int 0), (2, .int (nI d)), (3, .int x), (4, .int y), (5, .ref (u 0))]) hx hb dX6_saltWith_52 hl (by decide) rfl (fun ls hl => ?_)
  have loop2 : ∀ (Q : State → Prop) (n : Nat) (k : Nat) (τ : sS)  (H : Heap) (locs : List Loc) (ls : Array Slot), k + n = d ∧ mAr τ → mH D u cs 10 (mA a N s.heap.size) s.heap τ (mW N a cs σ) H locs → lv_has ls 8 [(2, .int (nI d)), (3, .int x), (4, .int y), (5, .ref (u 0)), (6, .int (nI k))] → (∀ (H : Heap) (locs : List Loc) (ls : Array Slot), mH D u cs 10 (mA a N s.heap.size) s.heap (g_X6_days x y 0 n τ) (mW N a cs σ) H locs → lv_has ls 8 [(5, .ref (u 0))] → W p l e { frames := 4, cells := 27, slots := 259, locals := 99 } s m #[Value.ref (a 10), Value.int (nI g), Value.int (nI d), Value.int x, Value.int y] below meth c H locs (18 + d) (187 + 8 * d) Q (F0 m 76 ls [])) → W p l e { frames := 4, cells := 27, slots := 259, locals := 99 } s m #[Value.ref (a 10), Value.int (nI g), Value.int (nI d), Value.int x, Value.int y] below meth c H locs (18 + k) (187 + 8 * k) Q (F0 m 54 ls []) := by
    intro Q n
    induction n with
    | zero =>
      intro k τ  H locs ls hkn hw hl kont
      refine lv_iload hx hb dX6_saltWith_54 (lv_at hl 4 rfl) ?_
      refine lv_iload_n hx hb dX6_saltWith_56 rfl (lv_at hl 0 rfl) ?_
      refine lv_icmp_ge (tgt := 76) hx hb dX6_saltWith_57 (by decide) (fun c8 => ?_) (fun c8 => absurd (by rw [show k = d by omega]; exact Int32.le_refl _) c8)
      refine W.widen (k := 18 + d) (n := 187 + 8 * d) (by omega) (by omega) ?_
      exact kont H locs ls hw (lv_sub hl [3] rfl)
    | succ n ih =>
      intro k τ  H locs ls hkn hw hl kont
      refine lv_iload hx hb dX6_saltWith_54 (lv_at hl 4 rfl) ?_
      refine lv_iload_n hx hb dX6_saltWith_56 rfl (lv_at hl 0 rfl) ?_
      refine lv_icmp_ge (tgt := 76) hx hb dX6_saltWith_57 (by decide) (fun c9 => absurd c9 (nI_ge (by omega) (by omega))) (fun c9 => ?_)
      refine lv_aload hx hb dX6_saltWith_60 (lv_at hl 3 rfl) ?_
      refine lv_iload_n hx hb dX6_saltWith_62 rfl (lv_at hl 1 rfl) ?_
      refine lv_iload hx hb dX6_saltWith_63 (lv_at hl 2 rfl) ?_
      refine lv_iconst (v := 0) hx hb dX6_saltWith_65 (by decide) ?_
      refine mc_r (mr_V (i := 0) (As := [.int x, .int y, .int 0]) (rest := []) ⟨hx, hb, hml, hown, hts⟩ (zX5_day l D u cs 10 (by omega) _ hkn.2 x y 0 _) (cwV 3 hts gX6_saltWith_X5_day rfl rfl rfl (by decide +kernel) ⟨Nat.le_of_ble_eq_true rfl, Nat.le_of_ble_eq_true rfl⟩) hK hN2 hw (by omega) mE_r kcX5 rfl hl.1 (Nat.le_of_ble_eq_true rfl) dX6_saltWith_66 ⟨by show (18 + k) + 1 ≤ 27; omega, by show (187 + 8 * k) + 8 ≤ 259; omega⟩) hw hA (fun q10 H locs hw => ?_)
      obtain ⟨τ11, eτ11⟩ : ∃ zz : sS, g_X5_day τ x y 0 = zz := ⟨_, rfl⟩
      rw [eτ11] at hw
      refine lv_pop hx hb dX6_saltWith_69 rfl ?_
      have hw := mH_dropx hw
      refine lv_iinc (v := nI (k + 1)) (lv' := [(6, .int (nI (k + 1))), (2, .int (nI d)), (3, .int x), (4, .int y), (5, .ref (u 0))]) hx hb dX6_saltWith_70 hl (k := 4) rfl (nI_1 k) (by decide) rfl (fun ls hl => ?_)
      refine lv_goto (tgt := 54) hx hb dX6_saltWith_73 (by decide) ?_
      have hstep : g_X6_days x y 0 (n + 1) τ = g_X6_days x y 0 n τ11 := by
        subst eτ11; rfl
      refine W.widen (k := 18 + (k + 1)) (n := 187 + 8 * (k + 1)) (by omega) (by omega) ?_
      exact ih (k + 1) τ11  H locs ls ⟨by omega, by subst eτ11; exact mAr_day hkn.2⟩ hw (lv_sub hl [1, 2, 3, 4, 0] rfl) (fun H locs ls hw hl => kont H locs ls (by rw [hstep]; exact hw) (by exact hl))
  refine loop2 _ d 0 τ7  _ _ _ ⟨Nat.zero_add d, (by subst eτ7 eτ1; exact mAr_gates _ _ _ (mAr_copy har))⟩ hw (lv_sub hl [1, 2, 3, 4, 0] rfl) (fun H locs ls hw hl => ?_)
  obtain ⟨τ12, eτ12⟩ : ∃ zz : sS, g_X6_days x y 0 d τ7 = zz := ⟨_, rfl⟩
  rw [eτ12] at hw
  refine lv_iconst (v := 0) hx hb dX6_saltWith_76 (by decide) ?_
  refine lv_istore (lv' := [(6, .int 0), (5, .ref (u 0))]) hx hb dX6_saltWith_77 hl (by decide) rfl (fun ls hl => ?_)
  refine lv_iconst (v := 5) hx hb dX6_saltWith_79 (by decide) ?_
  refine lv_istore (lv' := [(7, .int 5), (6, .int 0), (5, .ref (u 0))]) hx hb dX6_saltWith_80 hl (by decide) rfl (fun ls hl => ?_)
  have loop3 : ∀ (Q : State → Prop) (n : Nat) (k : Nat) (τ : sS) (v : Int32) (H : Heap) (locs : List Loc) (ls : Array Slot), k + n = 3 → mH D u cs 10 (mA a N s.heap.size) s.heap τ (mW N a cs σ) H locs → lv_has ls 8 [(5, .ref (u 0)), (6, .int v), (7, .int (nI (5 + k)))] → (∀ (H : Heap) (locs : List Loc) (ls : Array Slot), mH D u cs 10 (mA a N s.heap.size) s.heap (τ) (mW N a cs σ) H locs → lv_has ls 8 [(6, .int (g_ssum τ n (5 + k) v))] → W p l e { frames := 4, cells := 27, slots := 259, locals := 99 } s m #[Value.ref (a 10), Value.int (nI g), Value.int (nI d), Value.int x, Value.int y] below meth c H locs (18 + d) (187 + 8 * d) Q (F0 m 123 ls [])) → W p l e { frames := 4, cells := 27, slots := 259, locals := 99 } s m #[Value.ref (a 10), Value.int (nI g), Value.int (nI d), Value.int x, Value.int y] below meth c H locs (18 + d) (187 + 8 * d) Q (F0 m 82 ls []) := by
    intro Q n
    induction n with
    | zero =>
      intro k τ v H locs ls hkn hw hl kont
      refine lv_iload hx hb dX6_saltWith_82 (lv_at hl 2 rfl) ?_
      refine lv_bipush (v := 8) hx hb dX6_saltWith_84 (by decide) ?_
      refine lv_icmp_ge (tgt := 123) hx hb dX6_saltWith_86 (by decide) (fun c13 => ?_) (fun c13 => absurd (by rw [show k = 3 by omega]; decide) c13)
      exact kont H locs ls hw (lv_sub hl [1] rfl)
    | succ n ih =>
      intro k τ v H locs ls hkn hw hl kont
      refine lv_iload hx hb dX6_saltWith_82 (lv_at hl 2 rfl) ?_
      refine lv_bipush (v := 8) hx hb dX6_saltWith_84 (by decide) ?_
      refine lv_icmp_ge (tgt := 123) hx hb dX6_saltWith_86 (by decide) (fun c14 => absurd c14 (nI_ge (a := 5 + k) (b := 8) (by omega) (by decide))) (fun c14 => ?_)
      refine lv_iload hx hb dX6_saltWith_89 (lv_at hl 1 rfl) ?_
      refine lv_aload hx hb dX6_saltWith_91 (lv_at hl 0 rfl) ?_
      refine mg_rq hx hb hts iX6_saltWith_X5 hown hK hw (by omega) (hts _ mX6_saltWith_2) dX6_saltWith_93 ?_
      refine lv_iload hx hb dX6_saltWith_96 (lv_at hl 2 rfl) ?_
      refine mg_q (k := (5 + k)) hx hb hK hw (by omega) (by omega) rfl dX6_saltWith_98 ?_
      refine mg_p hx hb hts iX6_saltWith_X4 hown hK hw (by omega) (by omega) 2 (by decide) (hts _ mX6_saltWith_6) dX6_saltWith_99 ?_
      refine lv_aload hx hb dX6_saltWith_102 (lv_at hl 0 rfl) ?_
      refine mg_rq hx hb hts iX6_saltWith_X5 hown hK hw (by omega) (hts _ mX6_saltWith_2) dX6_saltWith_104 ?_
      refine lv_iload hx hb dX6_saltWith_107 (lv_at hl 2 rfl) ?_
      refine mg_q (k := (5 + k)) hx hb hK hw (by omega) (by omega) rfl dX6_saltWith_109 ?_
      refine mg_p hx hb hts iX6_saltWith_X4 hown hK hw (by omega) (by omega) 6 (by decide) (hts _ mX6_saltWith_7) dX6_saltWith_110 ?_
      refine lv_iadd hx hb dX6_saltWith_113 ?_
      refine lv_iadd hx hb dX6_saltWith_114 ?_
      refine lw_topi (fun x15 ex15 => ?_)
      refine lv_istore (lv' := [(6, .int x15), (5, .ref (u 0)), (7, .int (nI (5 + k)))]) hx hb dX6_saltWith_115 hl (by decide) rfl (fun ls hl => ?_)
      refine lv_iinc (v := nI ((5 + k) + 1)) (lv' := [(7, .int (nI ((5 + k) + 1))), (6, .int x15), (5, .ref (u 0))]) hx hb dX6_saltWith_117 hl (k := 2) rfl (nI_1 (5 + k)) (by decide) rfl (fun ls hl => ?_)
      refine lv_goto (tgt := 82) hx hb dX6_saltWith_120 (by decide) ?_
      have hstep : τ = τ := by
        subst ex15; rfl
      have hval0 : g_ssum τ (n + 1) (5 + k) v = g_ssum τ n (5 + (k + 1)) x15 := by
        subst ex15; rfl
      exact ih (k + 1) τ x15 H locs ls (by omega) hw (lv_sub hl [2, 1, 0] rfl) (fun H locs ls hw hl => kont H locs ls (by rw [hstep]; exact hw) (by rw [hval0]; exact hl))
  refine loop3 _ 3 0 τ12 0 _ _ _ (by decide) hw (lv_sub hl [2, 1, 0] rfl) (fun H locs ls hw hl => ?_)
  obtain ⟨τ16, eτ16⟩ : ∃ zz : sS, τ12 = zz := ⟨_, rfl⟩
  rw [eτ16] at hw
  refine lv_iload hx hb dX6_saltWith_123 (lv_at hl 0 rfl) ?_
  have hw := mH_swap hw
  refine W.widen (k := 27) (n := 259) (by omega) (by omega) ?_
  exact me_i hx hb hr hlocks hw (by subst eτ16 eτ12 eτ7 eτ1; rfl) (by rfl) dX6_saltWith_125
set_option maxHeartbeats 4000000 in
set_option maxRecDepth 100000 in
theorem zX6_best (l : Launch) (D : va_G) (a : Nat → Nat) (cs : Nat → ClassId) (N : Nat) (hN : 12 ≤ N) (σ : sS) (hz : mZ σ) (har : mAr σ) (d : Nat) (hd9 : d ≤ 9) (x y : Int32) : mMi l yX6_best wsX6_best ({ frames := 5, cells := 6912, slots := 66304, locals := 126 }) 6912 66304 D a cs N [.ref (a 10), .int (nI d), .int x, .int y] σ (g_X6_best σ d x y) σ := by
  intro sz
  refine Met.ofW (cc := cX6_best) (maxL := 8) (ret := (some .int)) (by decide) rfl ?_
  intro p e s m args below meth c s₁ B hml hv
  obtain ⟨rfl, hsz, hv2⟩ := hv
  have hv3 : mB D a cs N σ sz s := ⟨hsz, hv2⟩
  subst hsz
  have hw := mH_start hv3
  obtain ⟨-, -, hK, -, hN2⟩ := hv3
  have hx := B.exec
  have hb := B.bytes
  have hr := B.returns
  have hts := atoms_spec (ws := wsX6_best) B.pre
  have hown : s.vm.findClass RX6 = some m.cls := findClass_of_methodNamed B.named
  have hlocks := B.notSynchronized
  have hA : ∀ q : Nat, s.heap.size ≤ q → mA a N s.heap.size q := mA_new
  have hl := lv_entry ([.ref (a 10), .int (nI d), .int x, .int y]) (n := 8) (Nat.le_of_ble_eq_true rfl)
  rw [lg_entry_eq]
  generalize (lg_sl ([.ref (a 10), .int (nI d), .int x, .int y]) ++ List.replicate (8 - (lg_sl ([.ref (a 10), .int (nI d), .int x, .int y])).length) Slot.unset).toArray = ls at hl ⊢
  have hl : lv_has ls 8 [(0, .ref (a 10)), (1, .int (nI d)), (2, .int x), (3, .int y)] := hl
  refine lv_iconst (v := 0) hx hb dX6_best_0 (by decide) ?_
  refine lv_istore (lv' := [(4, .int 0), (0, .ref (a 10)), (1, .int (nI d)), (2, .int x), (3, .int y)]) hx hb dX6_best_1 hl (by decide) rfl (fun ls hl => ?_)
  refine lv_iconst (v := -1) hx hb dX6_best_3 (by decide) ?_
  refine lv_istore (lv' := [(5, .int (-1)), (4, .int 0), (0, .ref (a 10)), (1, .int (nI d)), (2, .int x), (3, .int y)]) hx hb dX6_best_4 hl (by decide) rfl (fun ls hl => ?_)
  refine lv_iconst (v := 0) hx hb dX6_best_6 (by decide) ?_
  refine lv_istore (lv' := [(6, .int 0), (5, .int (-1)), (4, .int 0), (0, .ref (a 10)), (1, .int (nI d)), (2, .int x), (3, .int y)]) hx hb dX6_best_7 hl (by decide) rfl (fun ls hl => ?_)
  have loop : ∀ (Q : State → Prop) (n : Nat) (k : Nat) (τ : sS) (v : Int32) (u : Int32) (H : Heap) (locs : List Loc) (ls : Array Slot), k + n = 256 ∧ mZ τ ∧ mAr τ → mH D a cs N (mA a N s.heap.size) s.heap τ ([]) H locs → lv_has ls 8 [(0, .ref (a 10)), (1, .int (nI d)), (2, .int x), (3, .int y), (4, .int v), (5, .int u), (6, .int (nI k))] → (∀ (H : Heap) (locs : List Loc) (ls : Array Slot), mH D a cs N (mA a N s.heap.size) s.heap (τ) ([]) H locs → lv_has ls 8 [(4, .int (g_bestB τ d x y n k v u))] → W p l e { frames := 5, cells := 6912, slots := 66304, locals := 126 } s m #[Value.ref (a 10), Value.int (nI d), Value.int x, Value.int y] below meth c H locs (27 * 256) (259 * 256) Q (F0 m 52 ls [])) → W p l e { frames := 5, cells := 6912, slots := 66304, locals := 126 } s m #[Value.ref (a 10), Value.int (nI d), Value.int x, Value.int y] below meth c H locs (27 * k) (259 * k) Q (F0 m 9 ls []) := by
    intro Q n
    induction n with
    | zero =>
      intro k τ v u H locs ls hkn hw hl kont
      refine lv_iload hx hb dX6_best_9 (lv_at hl 6 rfl) ?_
      refine lv_sipush (v := 256) hx hb dX6_best_11 (by decide) ?_
      refine lv_icmp_ge (tgt := 52) hx hb dX6_best_14 (by decide) (fun c1 => ?_) (fun c1 => absurd (by rw [show k = 256 by omega]; decide) c1)
      refine W.widen (k := 27 * 256) (n := 259 * 256) (by omega) (by omega) ?_
      exact kont H locs ls hw (lv_sub hl [4] rfl)
    | succ n ih =>
      intro k τ v u H locs ls hkn hw hl kont
      refine lv_iload hx hb dX6_best_9 (lv_at hl 6 rfl) ?_
      refine lv_sipush (v := 256) hx hb dX6_best_11 (by decide) ?_
      refine lv_icmp_ge (tgt := 52) hx hb dX6_best_14 (by decide) (fun c2 => absurd c2 (nI_ge (a := k) (b := 256) (by omega) (by decide))) (fun c2 => ?_)
      refine lv_aload_n hx hb dX6_best_17 rfl (lv_at hl 0 rfl) ?_
      refine lv_iload hx hb dX6_best_18 (lv_at hl 6 rfl) ?_
      refine lv_iload_n hx hb dX6_best_20 rfl (lv_at hl 1 rfl) ?_
      refine lv_iload_n hx hb dX6_best_21 rfl (lv_at hl 2 rfl) ?_
      refine lv_iload_n hx hb dX6_best_22 rfl (lv_at hl 3 rfl) ?_
      refine mc_i (mr_V (i := 10) (As := [.int (nI k), .int (nI d), .int x, .int y]) (rest := []) ⟨hx, hb, hml, hown, hts⟩ (zX6_saltWith l D a cs N (by omega) _ hkn.2.1 hkn.2.2 k d hd9 x y _) (cwV 4 hts gX6_best_X6_saltWith rfl rfl rfl (by decide +kernel) ⟨Nat.le_of_ble_eq_true rfl, Nat.le_of_ble_eq_true rfl⟩) hK hN2 hw (by omega) mE_o kcX6 rfl hl.1 (Nat.le_of_ble_eq_true rfl) dX6_best_23 ⟨by show (27 * k) + 27 ≤ 6912; omega, by show (259 * k) + 259 ≤ 66304; omega⟩) hw hA (fun H locs hw => ?_)
      refine lv_istore (lv' := [(7, .int (g_X6_withV τ k d x y)), (0, .ref (a 10)), (1, .int (nI d)), (2, .int x), (3, .int y), (4, .int v), (5, .int u), (6, .int (nI k))]) hx hb dX6_best_26 hl (by decide) rfl (fun ls hl => ?_)
      refine lv_iload hx hb dX6_best_28 (lv_at hl 0 rfl) ?_
      refine lv_iload hx hb dX6_best_30 (lv_at hl 6 rfl) ?_
      refine lv_icmp_gt (tgt := 38) hx hb dX6_best_32 (by decide) (fun c3 => ?_) (fun c3 => ?_)
      · refine lv_iload hx hb dX6_best_38 (lv_at hl 0 rfl) ?_
        refine lv_istore (lv' := [(5, .int (g_X6_withV τ k d x y)), (7, .int (g_X6_withV τ k d x y)), (0, .ref (a 10)), (1, .int (nI d)), (2, .int x), (3, .int y), (4, .int v), (6, .int (nI k))]) hx hb dX6_best_40 hl (by decide) rfl (fun ls hl => ?_)
        refine lv_iload hx hb dX6_best_42 (lv_at hl 7 rfl) ?_
        refine lv_istore (lv' := [(4, .int (nI k)), (5, .int (g_X6_withV τ k d x y)), (7, .int (g_X6_withV τ k d x y)), (0, .ref (a 10)), (1, .int (nI d)), (2, .int x), (3, .int y), (6, .int (nI k))]) hx hb dX6_best_44 hl (by decide) rfl (fun ls hl => ?_)
        refine lv_iinc (v := nI (k + 1)) (lv' := [(6, .int (nI (k + 1))), (4, .int (nI k)), (5, .int (g_X6_withV τ k d x y)), (7, .int (g_X6_withV τ k d x y)), (0, .ref (a 10)), (1, .int (nI d)), (2, .int x), (3, .int y)]) hx hb dX6_best_46 hl (k := 7) rfl (nI_1 k) (by decide) rfl (fun ls hl => ?_)
        refine lv_goto (tgt := 9) hx hb dX6_best_49 (by decide) ?_
        have hstep : τ = τ := by
          rfl
        have hval0 : g_bestB τ d x y (n + 1) k v u = g_bestB τ d x y n (k + 1) (nI k) (g_X6_withV τ k d x y) := by
          simp only [g_bestB, if_pos c3]
        have hval1 : g_bestM τ d x y (n + 1) k u = g_bestM τ d x y n (k + 1) (g_X6_withV τ k d x y) := by
          simp only [g_bestM, if_pos c3]
        refine W.widen (k := 27 * (k + 1)) (n := 259 * (k + 1)) (by omega) (by omega) ?_
        exact ih (k + 1) τ (nI k) (g_X6_withV τ k d x y) H locs ls ⟨by omega, hkn.2⟩ hw (lv_sub hl [4, 5, 6, 7, 1, 2, 0] rfl) (fun H locs ls hw hl => kont H locs ls (by rw [hstep]; exact hw) (by rw [hval0]; exact hl))
      · refine lv_goto (tgt := 46) hx hb dX6_best_35 (by decide) ?_
        refine lv_iinc (v := nI (k + 1)) (lv' := [(6, .int (nI (k + 1))), (7, .int (g_X6_withV τ k d x y)), (0, .ref (a 10)), (1, .int (nI d)), (2, .int x), (3, .int y), (4, .int v), (5, .int u)]) hx hb dX6_best_46 hl (k := 7) rfl (nI_1 k) (by decide) rfl (fun ls hl => ?_)
        refine lv_goto (tgt := 9) hx hb dX6_best_49 (by decide) ?_
        have hstep : τ = τ := by
          rfl
        have hval0 : g_bestB τ d x y (n + 1) k v u = g_bestB τ d x y n (k + 1) v u := by
          simp only [g_bestB, if_neg c3]
        have hval1 : g_bestM τ d x y (n + 1) k u = g_bestM τ d x y n (k + 1) u := by
          simp only [g_bestM, if_neg c3]
        refine W.widen (k := 27 * (k + 1)) (n := 259 * (k + 1)) (by omega) (by omega) ?_
        exact ih (k + 1) τ v u H locs ls ⟨by omega, hkn.2⟩ hw (lv_sub hl [2, 3, 4, 5, 6, 7, 0] rfl) (fun H locs ls hw hl => kont H locs ls (by rw [hstep]; exact hw) (by rw [hval0]; exact hl))
  refine loop _ 256 0 σ 0 (-1) _ _ _ ⟨by decide, hz, har⟩ hw (lv_sub hl [3, 4, 5, 6, 2, 1, 0] rfl) (fun H locs ls hw hl => ?_)
  obtain ⟨τ4, eτ4⟩ : ∃ zz : sS, σ = zz := ⟨_, rfl⟩
  rw [eτ4] at hw
  refine lv_iload hx hb dX6_best_52 (lv_at hl 0 rfl) ?_
  refine W.widen (k := 6912) (n := 66304) (by omega) (by omega) ?_
  exact me_i hx hb hr hlocks hw (by subst eτ4; rfl) (by subst eτ4; rfl) dX6_best_54
set_option maxHeartbeats 4000000 in
set_option maxRecDepth 100000 in
theorem zX6_crustIn_4 (l : Launch) (D : va_G) (a : Nat → Nat) (cs : Nat → ClassId) (N : Nat) (hN : 12 ≤ N) (σ : sS) (hz : mZ σ) (har : mAr σ) (q : Nat) (hq : q < 3) (x y : Int32) (hy : g_X6_isIn x 0 9 = 1) (hy2 : g_X6_isIn y 0 9 = 1) : mMi l yX6_crustIn wsX6_crustIn ({ frames := 5, cells := 78, slots := 667, locals := 124 }) 78 667 D a cs N [.ref (a 10), .int (nI (5 + q)), .int x, .int y] σ (g_X6_crustB (m_thr σ 0) q x y) (m_thr σ 0) := by
  intro sz
  refine Met.ofW (cc := cX6_crustIn) (maxL := 4) (ret := (some .int)) (by decide) rfl ?_
  intro p e s m args below meth c s₁ B hml hv
  obtain ⟨rfl, hsz, hv2⟩ := hv
  have hv3 : mB D a cs N σ sz s := ⟨hsz, hv2⟩
  subst hsz
  have hw := mH_start hv3
  obtain ⟨-, -, hK, -, hN2⟩ := hv3
  have hx := B.exec
  have hb := B.bytes
  have hr := B.returns
  have hts := atoms_spec (ws := wsX6_crustIn) B.pre
  have hown : s.vm.findClass RX6 = some m.cls := findClass_of_methodNamed B.named
  have hlocks := B.notSynchronized
  have hA : ∀ q : Nat, s.heap.size ≤ q → mA a N s.heap.size q := mA_new
  have hl := lv_entry ([.ref (a 10), .int (nI (5 + q)), .int x, .int y]) (n := 4) (Nat.le_of_ble_eq_true rfl)
  rw [lg_entry_eq]
  generalize (lg_sl ([.ref (a 10), .int (nI (5 + q)), .int x, .int y]) ++ List.replicate (4 - (lg_sl ([.ref (a 10), .int (nI (5 + q)), .int x, .int y])).length) Slot.unset).toArray = ls at hl ⊢
  have hl : lv_has ls 4 [(0, .ref (a 10)), (1, .int (nI (5 + q))), (2, .int x), (3, .int y)] := hl
  refine lv_aload_n hx hb dX6_crustIn_0 rfl (lv_at hl 0 rfl) ?_
  refine lv_iload_n hx hb dX6_crustIn_1 rfl (lv_at hl 1 rfl) ?_
  refine mc_i (mr_S (As := [.int (nI (5 + q))]) (rest := [.ref (a 10)]) ⟨hx, hb, hml, hown, hts⟩ (zX6_isNoPan l D a cs N (by omega) _ (nI (5 + q)) _) (va_cwS 1 hts gX6_crustIn_X6_isNoPan rfl rfl rfl (by decide +kernel) ⟨Nat.le_of_ble_eq_true rfl, Nat.le_of_ble_eq_true rfl⟩) hK hN2 hw rfl hl.1 (Nat.le_of_ble_eq_true rfl) dX6_crustIn_2 ⟨Nat.le_of_ble_eq_true rfl, Nat.le_of_ble_eq_true rfl⟩) hw hA (fun H locs hw => ?_)
  refine lv_iconst (v := 1) hx hb dX6_crustIn_5 (by decide) ?_
  refine mc_i (mr_V (i := 10) (As := [.int (g_X6_isNoPan (nI (5 + q))), .int 1]) (rest := []) ⟨hx, hb, hml, hown, hts⟩ (zX6_start0 l D a cs N (by omega) _ (g_X6_isNoPan (nI (5 + q))) 1 (m_pan hq)  _) (cwV 2 hts gX6_crustIn_X6_start rfl rfl rfl (by decide +kernel) ⟨Nat.le_of_ble_eq_true rfl, Nat.le_of_ble_eq_true rfl⟩) hK hN2 hw (by omega) mE_o kcX6 rfl hl.1 (Nat.le_of_ble_eq_true rfl) dX6_crustIn_6 ⟨Nat.le_of_ble_eq_true rfl, Nat.le_of_ble_eq_true rfl⟩) hw hA (fun H locs hw => ?_)
  obtain ⟨τ1, eτ1⟩ : ∃ zz : sS, m_thr σ 0 = zz := ⟨_, rfl⟩
  rw [eτ1] at hw
  refine lv_if_ne (tgt := 45) hx hb dX6_crustIn_9 (by decide) (fun c2 => absurd (by decide) c2) (fun c2 => ?_)
  refine lv_aload_n hx hb dX6_crustIn_12 rfl (lv_at hl 0 rfl) ?_
  refine lv_iload_n hx hb dX6_crustIn_13 rfl (lv_at hl 2 rfl) ?_
  refine lv_iconst (v := 0) hx hb dX6_crustIn_14 (by decide) ?_
  refine lv_bipush (v := 9) hx hb dX6_crustIn_15 (by decide) ?_
  refine mc_i (mr_S (As := [.int x, .int 0, .int 9]) (rest := [.ref (a 10)]) ⟨hx, hb, hml, hown, hts⟩ (zX6_isIn l D a cs N (by omega) _ x 0 9 _) (va_cwS 3 hts gX6_crustIn_X6_isIn rfl rfl rfl (by decide +kernel) ⟨Nat.le_of_ble_eq_true rfl, Nat.le_of_ble_eq_true rfl⟩) hK hN2 hw rfl hl.1 (Nat.le_of_ble_eq_true rfl) dX6_crustIn_17 ⟨Nat.le_of_ble_eq_true rfl, Nat.le_of_ble_eq_true rfl⟩) hw hA (fun H locs hw => ?_)
  refine lv_if_eq (tgt := 33) hx hb dX6_crustIn_20 (by decide) (fun c3 => absurd c3 (by rw [hy]; decide)) (fun c3 => ?_)
  refine lv_iload_n hx hb dX6_crustIn_23 rfl (lv_at hl 3 rfl) ?_
  refine lv_iconst (v := 0) hx hb dX6_crustIn_24 (by decide) ?_
  refine lv_bipush (v := 9) hx hb dX6_crustIn_25 (by decide) ?_
  refine mc_i (mr_S (As := [.int y, .int 0, .int 9]) (rest := [.ref (a 10)]) ⟨hx, hb, hml, hown, hts⟩ (zX6_isIn l D a cs N (by omega) _ y 0 9 _) (va_cwS 3 hts gX6_crustIn_X6_isIn rfl rfl rfl (by decide +kernel) ⟨Nat.le_of_ble_eq_true rfl, Nat.le_of_ble_eq_true rfl⟩) hK hN2 hw rfl hl.1 (Nat.le_of_ble_eq_true rfl) dX6_crustIn_27 ⟨Nat.le_of_ble_eq_true rfl, Nat.le_of_ble_eq_true rfl⟩) hw hA (fun H locs hw => ?_)
  refine lv_if_ne (tgt := 37) hx hb dX6_crustIn_30 (by decide) (fun c4 => ?_) (fun c4 => absurd c4 (by rw [hy2]; decide))
  refine lv_iconst (v := 0) hx hb dX6_crustIn_37 (by decide) ?_
  refine lv_iconst (v := 2) hx hb dX6_crustIn_38 (by decide) ?_
  refine mc_i (mr_V (i := 10) (As := [.int 0, .int 2]) (rest := []) ⟨hx, hb, hml, hown, hts⟩ (zX6_refuse0 l D a cs N (by omega) _ 0 2 rfl (by subst eτ1; rfl) _) (cwV 2 hts gX6_crustIn_X6_refuse rfl rfl rfl (by decide +kernel) ⟨Nat.le_of_ble_eq_true rfl, Nat.le_of_ble_eq_true rfl⟩) hK hN2 hw (by omega) mE_o kcX6 rfl hl.1 (Nat.le_of_ble_eq_true rfl) dX6_crustIn_39 ⟨Nat.le_of_ble_eq_true rfl, Nat.le_of_ble_eq_true rfl⟩) hw hA (fun H locs hw => ?_)
  refine lv_if_eq (tgt := 49) hx hb dX6_crustIn_42 (by decide) (fun c5 => ?_) (fun c5 => absurd (by decide) c5)
  refine lv_aload_n hx hb dX6_crustIn_49 rfl (lv_at hl 0 rfl) ?_
  refine lv_iload_n hx hb dX6_crustIn_50 rfl (lv_at hl 1 rfl) ?_
  refine lv_iload_n hx hb dX6_crustIn_51 rfl (lv_at hl 2 rfl) ?_
  refine lv_iload_n hx hb dX6_crustIn_52 rfl (lv_at hl 3 rfl) ?_
  refine mc_i (mr_V (i := 10) (As := [.int (nI (5 + q)), .int x, .int y]) (rest := []) ⟨hx, hb, hml, hown, hts⟩ (zX6_crustBehind l D a cs N (by omega) _ (by subst eτ1; exact mZ_thr hz) (by subst eτ1; exact mAr_thr har) q hq x y _) (cwV 3 hts gX6_crustIn_X6_crustBehind rfl rfl rfl (by decide +kernel) ⟨Nat.le_of_ble_eq_true rfl, Nat.le_of_ble_eq_true rfl⟩) hK hN2 hw (by omega) mE_o kcX6 rfl hl.1 (Nat.le_of_ble_eq_true rfl) dX6_crustIn_53 ⟨Nat.le_of_ble_eq_true rfl, Nat.le_of_ble_eq_true rfl⟩) hw hA (fun H locs hw => ?_)
  exact me_i hx hb hr hlocks hw (by subst eτ1; rfl) (by subst eτ1; rfl) dX6_crustIn_56
set_option maxHeartbeats 4000000 in
set_option maxRecDepth 100000 in
theorem zX6_bestGates_4 (l : Launch) (D : va_G) (a : Nat → Nat) (cs : Nat → ClassId) (N : Nat) (hN : 12 ≤ N) (σ : sS) (hz : mZ σ) (har : mAr σ) (d : Nat) (hd9 : d ≤ 9) (x y : Int32) (h0 : g_X6_isIn (nI d) 1 9 = 1) (h1 : g_X6_isIn x 0 9 = 1) (h2 : g_X6_isIn y 0 9 = 1) : mMi l yX6_bestGates wsX6_bestGates ({ frames := 6, cells := 6912, slots := 66304, locals := 153 }) 6912 66304 D a cs N [.ref (a 10), .int (nI d), .int x, .int y] σ (g_X6_best (m_thr σ 0) d x y) (m_thr σ 0) := by
  intro sz
  refine Met.ofW (cc := cX6_bestGates) (maxL := 4) (ret := (some .int)) (by decide) rfl ?_
  intro p e s m args below meth c s₁ B hml hv
  obtain ⟨rfl, hsz, hv2⟩ := hv
  have hv3 : mB D a cs N σ sz s := ⟨hsz, hv2⟩
  subst hsz
  have hw := mH_start hv3
  obtain ⟨-, -, hK, -, hN2⟩ := hv3
  have hx := B.exec
  have hb := B.bytes
  have hr := B.returns
  have hts := atoms_spec (ws := wsX6_bestGates) B.pre
  have hown : s.vm.findClass RX6 = some m.cls := findClass_of_methodNamed B.named
  have hlocks := B.notSynchronized
  have hA : ∀ q : Nat, s.heap.size ≤ q → mA a N s.heap.size q := mA_new
  have hl := lv_entry ([.ref (a 10), .int (nI d), .int x, .int y]) (n := 4) (Nat.le_of_ble_eq_true rfl)
  rw [lg_entry_eq]
  generalize (lg_sl ([.ref (a 10), .int (nI d), .int x, .int y]) ++ List.replicate (4 - (lg_sl ([.ref (a 10), .int (nI d), .int x, .int y])).length) Slot.unset).toArray = ls at hl ⊢
  have hl : lv_has ls 4 [(0, .ref (a 10)), (1, .int (nI d)), (2, .int x), (3, .int y)] := hl
  refine lv_aload_n hx hb dX6_bestGates_0 rfl (lv_at hl 0 rfl) ?_
  refine lv_iload_n hx hb dX6_bestGates_1 rfl (lv_at hl 1 rfl) ?_
  refine lv_iconst (v := 1) hx hb dX6_bestGates_2 (by decide) ?_
  refine lv_bipush (v := 9) hx hb dX6_bestGates_3 (by decide) ?_
  refine mc_i (mr_S (As := [.int (nI d), .int 1, .int 9]) (rest := [.ref (a 10)]) ⟨hx, hb, hml, hown, hts⟩ (zX6_isIn l D a cs N (by omega) _ (nI d) 1 9 _) (va_cwS 3 hts gX6_bestGates_X6_isIn rfl rfl rfl (by decide +kernel) ⟨Nat.le_of_ble_eq_true rfl, Nat.le_of_ble_eq_true rfl⟩) hK hN2 hw rfl hl.1 (Nat.le_of_ble_eq_true rfl) dX6_bestGates_5 ⟨Nat.le_of_ble_eq_true rfl, Nat.le_of_ble_eq_true rfl⟩) hw hA (fun H locs hw => ?_)
  refine lv_if_eq (tgt := 31) hx hb dX6_bestGates_8 (by decide) (fun c1 => absurd c1 (by rw [h0]; decide)) (fun c1 => ?_)
  refine lv_iload_n hx hb dX6_bestGates_11 rfl (lv_at hl 2 rfl) ?_
  refine lv_iconst (v := 0) hx hb dX6_bestGates_12 (by decide) ?_
  refine lv_bipush (v := 9) hx hb dX6_bestGates_13 (by decide) ?_
  refine mc_i (mr_S (As := [.int x, .int 0, .int 9]) (rest := [.ref (a 10)]) ⟨hx, hb, hml, hown, hts⟩ (zX6_isIn l D a cs N (by omega) _ x 0 9 _) (va_cwS 3 hts gX6_bestGates_X6_isIn rfl rfl rfl (by decide +kernel) ⟨Nat.le_of_ble_eq_true rfl, Nat.le_of_ble_eq_true rfl⟩) hK hN2 hw rfl hl.1 (Nat.le_of_ble_eq_true rfl) dX6_bestGates_15 ⟨Nat.le_of_ble_eq_true rfl, Nat.le_of_ble_eq_true rfl⟩) hw hA (fun H locs hw => ?_)
  refine lv_if_eq (tgt := 31) hx hb dX6_bestGates_18 (by decide) (fun c2 => absurd c2 (by rw [h1]; decide)) (fun c2 => ?_)
  refine lv_iload_n hx hb dX6_bestGates_21 rfl (lv_at hl 3 rfl) ?_
  refine lv_iconst (v := 0) hx hb dX6_bestGates_22 (by decide) ?_
  refine lv_bipush (v := 9) hx hb dX6_bestGates_23 (by decide) ?_
  refine mc_i (mr_S (As := [.int y, .int 0, .int 9]) (rest := [.ref (a 10)]) ⟨hx, hb, hml, hown, hts⟩ (zX6_isIn l D a cs N (by omega) _ y 0 9 _) (va_cwS 3 hts gX6_bestGates_X6_isIn rfl rfl rfl (by decide +kernel) ⟨Nat.le_of_ble_eq_true rfl, Nat.le_of_ble_eq_true rfl⟩) hK hN2 hw rfl hl.1 (Nat.le_of_ble_eq_true rfl) dX6_bestGates_25 ⟨Nat.le_of_ble_eq_true rfl, Nat.le_of_ble_eq_true rfl⟩) hw hA (fun H locs hw => ?_)
  refine lv_if_ne (tgt := 35) hx hb dX6_bestGates_28 (by decide) (fun c3 => ?_) (fun c3 => absurd c3 (by rw [h2]; decide))
  refine lv_iconst (v := 0) hx hb dX6_bestGates_35 (by decide) ?_
  refine lv_iconst (v := 1) hx hb dX6_bestGates_36 (by decide) ?_
  refine mc_i (mr_V (i := 10) (As := [.int 0, .int 1]) (rest := []) ⟨hx, hb, hml, hown, hts⟩ (zX6_start0 l D a cs N (by omega) _ 0 1 rfl  _) (cwV 2 hts gX6_bestGates_X6_start rfl rfl rfl (by decide +kernel) ⟨Nat.le_of_ble_eq_true rfl, Nat.le_of_ble_eq_true rfl⟩) hK hN2 hw (by omega) mE_o kcX6 rfl hl.1 (Nat.le_of_ble_eq_true rfl) dX6_bestGates_37 ⟨Nat.le_of_ble_eq_true rfl, Nat.le_of_ble_eq_true rfl⟩) hw hA (fun H locs hw => ?_)
  obtain ⟨τ4, eτ4⟩ : ∃ zz : sS, m_thr σ 0 = zz := ⟨_, rfl⟩
  rw [eτ4] at hw
  refine lv_if_eq (tgt := 47) hx hb dX6_bestGates_40 (by decide) (fun c5 => ?_) (fun c5 => absurd (by decide) c5)
  refine lv_aload_n hx hb dX6_bestGates_47 rfl (lv_at hl 0 rfl) ?_
  refine lv_iload_n hx hb dX6_bestGates_48 rfl (lv_at hl 1 rfl) ?_
  refine lv_iload_n hx hb dX6_bestGates_49 rfl (lv_at hl 2 rfl) ?_
  refine lv_iload_n hx hb dX6_bestGates_50 rfl (lv_at hl 3 rfl) ?_
  refine mc_i (mr_V (i := 10) (As := [.int (nI d), .int x, .int y]) (rest := []) ⟨hx, hb, hml, hown, hts⟩ (zX6_best l D a cs N (by omega) _ (by subst eτ4; exact mZ_thr hz) (by subst eτ4; exact mAr_thr har) d hd9 x y _) (cwV 3 hts gX6_bestGates_X6_best rfl rfl rfl (by decide +kernel) ⟨Nat.le_of_ble_eq_true rfl, Nat.le_of_ble_eq_true rfl⟩) hK hN2 hw (by omega) mE_o kcX6 rfl hl.1 (Nat.le_of_ble_eq_true rfl) dX6_bestGates_51 ⟨Nat.le_of_ble_eq_true rfl, Nat.le_of_ble_eq_true rfl⟩) hw hA (fun H locs hw => ?_)
  exact me_i hx hb hr hlocks hw (by subst eτ4; rfl) (by subst eτ4; rfl) dX6_bestGates_54
