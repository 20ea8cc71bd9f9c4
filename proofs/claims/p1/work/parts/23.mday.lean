theorem mX5_day_0 : (Cond.fieldLink RX5 23 "SaltRowModel$Row" "day" "I") ∈ wsX5_day := by decide +kernel
theorem iX5_day_X5 : ∀ w ∈ wsX50, w ∈ wsX5_day := by decide +kernel
theorem mX5_day_2 : (Cond.fieldLink RX5 11 "SaltRowModel$Row" "ponds" "[LSaltRowModel$Pond;") ∈ wsX5_day := by decide +kernel
theorem mX5_day_3 : (Cond.initialized RX6) ∈ wsX5_day := by decide +kernel
theorem mX5_day_4 : (Cond.static yX6_tideOf) ∈ wsX5_day := by decide +kernel
theorem mX5_day_5 : (Cond.fieldLink RX5 35 "SaltRowModel$Pond" "isOpen" "Z") ∈ wsX5_day := by decide +kernel
theorem iX5_day_X4 : ∀ w ∈ wsX40, w ∈ wsX5_day := by decide +kernel
theorem mX5_day_7 : (Cond.fieldLink RX5 39 "SaltRowModel$Pond" "area" "I") ∈ wsX5_day := by decide +kernel
theorem mX5_day_8 : (Cond.methodLink RX5 57 Lib.Math.min.name) ∈ wsX5_day := by decide +kernel
theorem mX5_day_9 : (Cond.static Lib.Math.min.name) ∈ wsX5_day := by decide +kernel
theorem mX5_day_10 : (Cond.initialized "java/lang/Math") ∈ wsX5_day := by decide +kernel
theorem mX5_day_11 : (Cond.code Lib.Math.min.name Lib.Math.min.code 2 (some .int)) ∈ wsX5_day := by decide +kernel
theorem mX5_day_12 : (Cond.arrayClass .int) ∈ wsX5_day := by decide +kernel
theorem mX5_day_13 : (Cond.fieldLink RX5 67 "SaltRowModel$Pond" "isCovered" "Z") ∈ wsX5_day := by decide +kernel
theorem mX5_day_14 : (Cond.fieldLink RX5 70 "SaltRowModel$Pond" "fresh" "I") ∈ wsX5_day := by decide +kernel
theorem mX5_day_15 : (Cond.fieldLink RX5 42 "SaltRowModel$Pond" "brine" "I") ∈ wsX5_day := by decide +kernel
theorem mX5_day_16 : (Cond.fieldLink RX5 45 "SaltRowModel$Pond" "salt" "I") ∈ wsX5_day := by decide +kernel
theorem mX5_day_17 : (Cond.fieldLink RX5 48 "SaltRowModel$Pond" "gypsum" "I") ∈ wsX5_day := by decide +kernel
theorem mX5_day_18 : (Cond.fieldLink RX5 51 "SaltRowModel$Pond" "bitter" "I") ∈ wsX5_day := by decide +kernel
theorem mX5_day_19 : (Cond.fieldLink RX5 54 "SaltRowModel$Row" "fromSea" "I") ∈ wsX5_day := by decide +kernel
set_option maxHeartbeats 4000000 in
set_option maxRecDepth 100000 in
theorem zX5_day (l : Launch) (D : va_G) (a : Nat → Nat) (cs : Nat → ClassId) (N : Nat) (hN : 10 ≤ N) (σ : sS) (har : mAr σ) (x y z : Int32) : mMr l yX5_day wsX5_day ({ frames := 3, cells := 1, slots := 8, locals := 69 }) 1 8 D a cs N [.ref (a 0), .int x, .int y, .int z] σ 8 (g_X5_made σ x y z) (g_X5_day σ x y z) := by
  intro sz
  refine Met.ofW (cc := cX5_day) (maxL := 11) (ret := (some (.array .int))) (by decide) rfl ?_
  intro p e s m args below meth c s₁ B hml hv
  obtain ⟨rfl, hsz, hv2⟩ := hv
  have hv3 : mB D a cs N σ sz s := ⟨hsz, hv2⟩
  subst hsz
  have hw := mH_start hv3
  obtain ⟨-, -, hK, -, hN2⟩ := hv3
  have hx := B.exec
  have hb := B.bytes
  have hr := B.returns
  have hts := atoms_spec (ws := wsX5_day) B.pre
  have hown : s.vm.findClass RX5 = some m.cls := findClass_of_methodNamed B.named
  have hlocks := B.notSynchronized
  have hA : ∀ q : Nat, s.heap.size ≤ q → mA a N s.heap.size q := mA_new
  have hl := lv_entry ([.ref (a 0), .int x, .int y, .int z]) (n := 11) (Nat.le_of_ble_eq_true rfl)
  rw [lg_entry_eq]
  generalize (lg_sl ([.ref (a 0), .int x, .int y, .int z]) ++ List.replicate (11 - (lg_sl ([.ref (a 0), .int x, .int y, .int z])).length) Slot.unset).toArray = ls at hl ⊢
  have hl : lv_has ls 11 [(0, .ref (a 0)), (1, .int x), (2, .int y), (3, .int z)] := hl
  refine lv_aload_n hx hb dX5_day_0 rfl (lv_at hl 0 rfl) ?_
  refine lv_dup hx hb dX5_day_1 rfl ?_
  refine mg_r hx hb hts iX5_day_X5 hown hK hw (by omega) 1 (by decide) (hts _ mX5_day_0) dX5_day_2 ?_
  refine lv_iconst (v := 1) hx hb dX5_day_5 (by decide) ?_
  refine lv_iadd hx hb dX5_day_6 ?_
  refine mp_r hx hb hts iX5_day_X5 hown hK hw (by omega) 1 (by decide) (hts _ mX5_day_0) dX5_day_7 (fun H locs hw => ?_)
  obtain ⟨τ1, eτ1⟩ : ∃ zz : sS, va_up σ 0 (upd (σ 0) 1 ((σ 0 1) + 1)) = zz := ⟨_, rfl⟩
  rw [eτ1] at hw
  refine lv_aload_n hx hb dX5_day_10 rfl (lv_at hl 0 rfl) ?_
  refine mg_rq hx hb hts iX5_day_X5 hown hK hw (by omega) (hts _ mX5_day_2) dX5_day_11 ?_
  refine lv_iconst (v := 0) hx hb dX5_day_14 (by decide) ?_
  refine mg_q (k := 0) hx hb hK hw (by omega) (by decide) rfl dX5_day_15 ?_
  refine lv_astore (lv' := [(4, .ref (a (2 + 0))), (0, .ref (a 0)), (1, .int x), (2, .int y), (3, .int z)]) hx hb dX5_day_16 hl (by decide) rfl (fun ls hl => ?_)
  refine lv_bipush (v := 10) hx hb dX5_day_18 (by decide) ?_
  refine lv_aload_n hx hb dX5_day_20 rfl (lv_at hl 1 rfl) ?_
  refine mg_r hx hb hts iX5_day_X5 hown hK hw (by omega) 1 (by decide) (hts _ mX5_day_0) dX5_day_21 ?_
  refine mc_i (mr_N (As := [.int (τ1 0 1)]) (rest := [.int 10]) ⟨hx, hb, hml, hown, hts⟩ (zX6_tideOf l D a cs N (by omega) _ (τ1 0 1) _) (va_cnB 1 hts gX5_day_X6_tideOf_n27 rfl rfl rfl (mN_X5_X6_tideOf hN2) (hts _ mX5_day_3) (by decide +kernel) ⟨Nat.le_of_ble_eq_true rfl, Nat.le_of_ble_eq_true rfl⟩) (hts _ mX5_day_4) hK hN2 hw rfl hl.1 (Nat.le_of_ble_eq_true rfl) dX5_day_24 ⟨Nat.le_of_ble_eq_true rfl, Nat.le_of_ble_eq_true rfl⟩) hw hA (fun H locs hw => ?_)
  refine lv_imul hx hb dX5_day_27 ?_
  refine lv_aload hx hb dX5_day_28 (lv_at hl 0 rfl) ?_
  have hw := mH_foc (i := 2 + 0) hw
  refine mc_i (mr_V (i := 2 + 0) (As := []) (rest := [.int (10 * (g_X6_tideOf (τ1 0 1)))]) ⟨hx, hb, hml, hown, hts⟩ (zX4_level l D a cs N (by omega) _ (2 + 0) (by omega) _ (by subst eτ1; exact har 0 (by decide)) _) (cwV 0 hts gX5_day_X4_level rfl rfl rfl (by decide +kernel) ⟨Nat.le_of_ble_eq_true rfl, Nat.le_of_ble_eq_true rfl⟩) hK hN2 hw (by omega) (mE_p (by omega)) kcX4 rfl hl.1 (Nat.le_of_ble_eq_true rfl) dX5_day_30 ⟨Nat.le_of_ble_eq_true rfl, Nat.le_of_ble_eq_true rfl⟩) hw hA (fun H locs hw => ?_)
  have hw := mH_unf hw
  refine lv_isub hx hb dX5_day_33 ?_
  refine lw_topi (fun x2 ex2 => ?_)
  refine lv_istore (lv' := [(5, .int x2), (4, .ref (a (2 + 0))), (0, .ref (a 0)), (1, .int x), (2, .int y), (3, .int z)]) hx hb dX5_day_34 hl (by decide) rfl (fun ls hl => ?_)
  refine lv_aload hx hb dX5_day_36 (lv_at hl 1 rfl) ?_
  refine mg_p hx hb hts iX5_day_X4 hown hK hw (by omega) (by omega) 8 (by decide) (hts _ mX5_day_5) dX5_day_38 ?_
  refine w_merge 131 (fun H locs ls => mH D a cs N (mA a N s.heap.size) s.heap (g_X5_seaStep (g_X5_start σ)) ([]) H locs ∧ lv_has ls 11 [(0, .ref (a 0)), (1, .int x), (2, .int y), (3, .int z)]) ?_ (fun km131 => ?_)
  · intro H locs ls hwl
    obtain ⟨hw, hl⟩ := hwl
    obtain ⟨τ3, eτ3⟩ : ∃ zz : sS, g_X5_seaStep (g_X5_start σ) = zz := ⟨_, rfl⟩
    rw [eτ3] at hw
    refine lv_bipush (v := 7) hx hb dX5_day_131 (by decide) ?_
    refine lv_istore (lv' := [(6, .int 7), (0, .ref (a 0)), (1, .int x), (2, .int y), (3, .int z)]) hx hb dX5_day_133 hl (by decide) rfl (fun ls hl => ?_)
    have loop : ∀ (Q : State → Prop) (n : Nat) (τ : sS)  (H : Heap) (locs : List Loc) (ls : Array Slot), n ≤ 7 ∧ mAr τ → mH D a cs N (mA a N s.heap.size) s.heap τ ([]) H locs → lv_has ls 11 [(0, .ref (a 0)), (1, .int x), (2, .int y), (3, .int z), (6, .int (nI n))] → (∀ (H : Heap) (locs : List Loc) (ls : Array Slot), mH D a cs N (mA a N s.heap.size) s.heap (g_X5_flow n τ) ([]) H locs → lv_has ls 11 [(0, .ref (a 0)), (1, .int x), (2, .int y), (3, .int z)] → W p l e { frames := 3, cells := 1, slots := 8, locals := 69 } s m #[Value.ref (a 0), Value.int x, Value.int y, Value.int z] below meth c H locs 0 0 Q (F0 m 238 ls [])) → W p l e { frames := 3, cells := 1, slots := 8, locals := 69 } s m #[Value.ref (a 0), Value.int x, Value.int y, Value.int z] below meth c H locs 0 0 Q (F0 m 135 ls []) := by
      intro Q n
      induction n with
      | zero =>
        intro τ  H locs ls hkn hw hl kont
        refine lv_iload hx hb dX5_day_135 (lv_at hl 4 rfl) ?_
        refine lv_if_le (tgt := 238) hx hb dX5_day_137 (by decide) (fun c4 => ?_) (fun c4 => absurd (by decide) c4)
        exact kont H locs ls hw (lv_sub hl [0, 1, 2, 3] rfl)
      | succ n ih =>
        intro τ  H locs ls hkn hw hl kont
        refine lv_iload hx hb dX5_day_135 (lv_at hl 4 rfl) ?_
        refine lv_if_le (tgt := 238) hx hb dX5_day_137 (by decide) (fun c5 => absurd c5 (nI_nle (by omega) (by omega))) (fun c5 => ?_)
        refine lv_aload_n hx hb dX5_day_140 rfl (lv_at hl 0 rfl) ?_
        refine mg_rq hx hb hts iX5_day_X5 hown hK hw (by omega) (hts _ mX5_day_2) dX5_day_141 ?_
        refine lv_iload hx hb dX5_day_144 (lv_at hl 4 rfl) ?_
        refine lv_iconst (v := 1) hx hb dX5_day_146 (by decide) ?_
        refine lv_isub hx hb dX5_day_147 ?_
        refine mg_q (k := n) hx hb hK hw (by omega) (by omega) (nI_pred n) dX5_day_148 ?_
        have hw := mH_foc (i := 2 + n) hw
        refine mc_i (mr_V (i := 2 + n) (As := []) (rest := []) ⟨hx, hb, hml, hown, hts⟩ (zX4_level l D a cs N (by omega) _ (2 + n) (by omega) _ (hkn.2 n (by omega)) _) (cwV 0 hts gX5_day_X4_level rfl rfl rfl (by decide +kernel) ⟨Nat.le_of_ble_eq_true rfl, Nat.le_of_ble_eq_true rfl⟩) hK hN2 hw (by omega) (mE_p (by omega)) kcX4 rfl hl.1 (Nat.le_of_ble_eq_true rfl) dX5_day_149 ⟨Nat.le_of_ble_eq_true rfl, Nat.le_of_ble_eq_true rfl⟩) hw hA (fun H locs hw => ?_)
        have hw := mH_unf hw
        refine lv_aload_n hx hb dX5_day_152 rfl (lv_at hl 0 rfl) ?_
        refine mg_rq hx hb hts iX5_day_X5 hown hK hw (by omega) (hts _ mX5_day_2) dX5_day_153 ?_
        refine lv_iload hx hb dX5_day_156 (lv_at hl 4 rfl) ?_
        refine mg_q (k := (n + 1)) hx hb hK hw (by omega) (by omega) rfl dX5_day_158 ?_
        have hw := mH_foc (i := 2 + (n + 1)) hw
        refine mc_i (mr_V (i := 2 + (n + 1)) (As := []) (rest := [.int (g_X4_level (τ (2 + n)))]) ⟨hx, hb, hml, hown, hts⟩ (zX4_level l D a cs N (by omega) _ (2 + (n + 1)) (by omega) _ (hkn.2 (n + 1) (by omega)) _) (cwV 0 hts gX5_day_X4_level rfl rfl rfl (by decide +kernel) ⟨Nat.le_of_ble_eq_true rfl, Nat.le_of_ble_eq_true rfl⟩) hK hN2 hw (by omega) (mE_p (by omega)) kcX4 rfl hl.1 (Nat.le_of_ble_eq_true rfl) dX5_day_159 ⟨Nat.le_of_ble_eq_true rfl, Nat.le_of_ble_eq_true rfl⟩) hw hA (fun H locs hw => ?_)
        have hw := mH_unf hw
        refine lv_isub hx hb dX5_day_162 ?_
        refine lw_topi (fun x6 ex6 => ?_)
        refine lv_istore (lv' := [(7, .int x6), (0, .ref (a 0)), (1, .int x), (2, .int y), (3, .int z), (6, .int (nI (n + 1)))]) hx hb dX5_day_163 hl (by decide) rfl (fun ls hl => ?_)
        refine lv_aload_n hx hb dX5_day_165 rfl (lv_at hl 1 rfl) ?_
        refine mg_rq hx hb hts iX5_day_X5 hown hK hw (by omega) (hts _ mX5_day_2) dX5_day_166 ?_
        refine lv_iload hx hb dX5_day_169 (lv_at hl 5 rfl) ?_
        refine mg_q (k := (n + 1)) hx hb hK hw (by omega) (by omega) rfl dX5_day_171 ?_
        refine mg_p hx hb hts iX5_day_X4 hown hK hw (by omega) (by omega) 8 (by decide) (hts _ mX5_day_5) dX5_day_172 ?_
        refine lv_if_eq (tgt := 232) hx hb dX5_day_175 (by decide) (fun c7 => ?_) (fun c7 => ?_)
        · refine lv_iinc (v := nI n) (lv' := [(6, .int (nI n)), (7, .int x6), (0, .ref (a 0)), (1, .int x), (2, .int y), (3, .int z)]) hx hb dX5_day_232 hl (k := 5) rfl (nI_dec n) (by decide) rfl (fun ls hl => ?_)
          refine lv_goto (tgt := 135) hx hb dX5_day_235 (by decide) ?_
          have hstep : g_X5_flow (n + 1) τ = g_X5_flow n τ := by
            subst ex6; show g_X5_flow n (g_X5_flowStep τ n) = _; unfold g_X5_flowStep; rw [if_pos c7] <;> rfl
          exact ih  τ  H locs ls ⟨by omega, by subst ex6; first | exact hkn.2 | exact mAr_give hkn.2⟩ hw (lv_sub hl [2, 3, 4, 5, 0] rfl) (fun H locs ls hw hl => kont H locs ls (by rw [hstep]; exact hw) (by exact hl))
        · refine lv_iload hx hb dX5_day_178 (lv_at hl 0 rfl) ?_
          refine lv_if_le (tgt := 232) hx hb dX5_day_180 (by decide) (fun c8 => ?_) (fun c8 => ?_)
          · refine lv_iinc (v := nI n) (lv' := [(6, .int (nI n)), (7, .int x6), (0, .ref (a 0)), (1, .int x), (2, .int y), (3, .int z)]) hx hb dX5_day_232 hl (k := 5) rfl (nI_dec n) (by decide) rfl (fun ls hl => ?_)
            refine lv_goto (tgt := 135) hx hb dX5_day_235 (by decide) ?_
            have hstep : g_X5_flow (n + 1) τ = g_X5_flow n τ := by
              subst ex6; show g_X5_flow n (g_X5_flowStep τ n) = _; unfold g_X5_flowStep; rw [if_neg c7, if_pos c8] <;> rfl
            exact ih  τ  H locs ls ⟨by omega, by subst ex6; first | exact hkn.2 | exact mAr_give hkn.2⟩ hw (lv_sub hl [2, 3, 4, 5, 0] rfl) (fun H locs ls hw hl => kont H locs ls (by rw [hstep]; exact hw) (by exact hl))
          · refine lv_aload_n hx hb dX5_day_183 rfl (lv_at hl 1 rfl) ?_
            refine mg_rq hx hb hts iX5_day_X5 hown hK hw (by omega) (hts _ mX5_day_2) dX5_day_184 ?_
            refine lv_iload hx hb dX5_day_187 (lv_at hl 5 rfl) ?_
            refine lv_iconst (v := 1) hx hb dX5_day_189 (by decide) ?_
            refine lv_isub hx hb dX5_day_190 ?_
            refine mg_q (k := n) hx hb hK hw (by omega) (by omega) (nI_pred n) dX5_day_191 ?_
            refine lv_iload hx hb dX5_day_192 (lv_at hl 0 rfl) ?_
            refine lv_aload_n hx hb dX5_day_194 rfl (lv_at hl 1 rfl) ?_
            refine mg_rq hx hb hts iX5_day_X5 hown hK hw (by omega) (hts _ mX5_day_2) dX5_day_195 ?_
            refine lv_iload hx hb dX5_day_198 (lv_at hl 5 rfl) ?_
            refine lv_iconst (v := 1) hx hb dX5_day_200 (by decide) ?_
            refine lv_isub hx hb dX5_day_201 ?_
            refine mg_q (k := n) hx hb hK hw (by omega) (by omega) (nI_pred n) dX5_day_202 ?_
            refine mg_p hx hb hts iX5_day_X4 hown hK hw (by omega) (by omega) 0 (by decide) (hts _ mX5_day_7) dX5_day_203 ?_
            refine lv_aload_n hx hb dX5_day_206 rfl (lv_at hl 1 rfl) ?_
            refine mg_rq hx hb hts iX5_day_X5 hown hK hw (by omega) (hts _ mX5_day_2) dX5_day_207 ?_
            refine lv_iload hx hb dX5_day_210 (lv_at hl 5 rfl) ?_
            refine mg_q (k := (n + 1)) hx hb hK hw (by omega) (by omega) rfl dX5_day_212 ?_
            refine mg_p hx hb hts iX5_day_X4 hown hK hw (by omega) (by omega) 0 (by decide) (hts _ mX5_day_7) dX5_day_213 ?_
            refine va_mmin hx hb (hml.trans hl.1.symm) hown (hts _ mX5_day_8) (hts _ mX5_day_9) (hts _ mX5_day_10) (hts _ mX5_day_11) (Nat.le_of_ble_eq_true rfl) (Nat.le_of_ble_eq_true rfl) (Nat.le_of_ble_eq_true rfl) (Nat.le_of_ble_eq_true rfl) dX5_day_216 ?_
            refine lw_topi (fun x9 ex9 => ?_)
            refine lv_imul hx hb dX5_day_219 ?_
            refine lv_iconst (v := 2) hx hb dX5_day_220 (by decide) ?_
            refine lv_idiv hx hb dX5_day_221 (by decide) ?_
            refine lv_aload_n hx hb dX5_day_222 rfl (lv_at hl 1 rfl) ?_
            refine mg_rq hx hb hts iX5_day_X5 hown hK hw (by omega) (hts _ mX5_day_2) dX5_day_223 ?_
            refine lv_iload hx hb dX5_day_226 (lv_at hl 5 rfl) ?_
            refine mg_q (k := (n + 1)) hx hb hK hw (by omega) (by omega) rfl dX5_day_228 ?_
            refine mc_v (mr_V (i := 2 + n) (As := [.int ((x6 * x9) / 2), .ref (a (2 + (n + 1)))]) (rest := []) ⟨hx, hb, hml, hown, hts⟩ (zX4_give l D a cs N (by omega) _ (2 + n) (2 + (n + 1)) (by omega) (by omega) (by omega) ((x6 * x9) / 2) _) (cwV 2 hts gX5_day_X4_give rfl rfl rfl (by decide +kernel) ⟨Nat.le_of_ble_eq_true rfl, Nat.le_of_ble_eq_true rfl⟩) hK hN2 hw (by omega) (mE_p (by omega)) kcX4 rfl hl.1 (Nat.le_of_ble_eq_true rfl) dX5_day_229 ⟨Nat.le_of_ble_eq_true rfl, Nat.le_of_ble_eq_true rfl⟩) hw hA (fun H locs hw => ?_)
            obtain ⟨τ10, eτ10⟩ : ∃ zz : sS, g_X4_give τ (2 + n) (2 + (n + 1)) ((x6 * x9) / 2) = zz := ⟨_, rfl⟩
            rw [eτ10] at hw
            refine lv_iinc (v := nI n) (lv' := [(6, .int (nI n)), (7, .int x6), (0, .ref (a 0)), (1, .int x), (2, .int y), (3, .int z)]) hx hb dX5_day_232 hl (k := 5) rfl (nI_dec n) (by decide) rfl (fun ls hl => ?_)
            refine lv_goto (tgt := 135) hx hb dX5_day_235 (by decide) ?_
            have hstep : g_X5_flow (n + 1) τ = g_X5_flow n τ10 := by
              subst eτ10 ex9 ex6; show g_X5_flow n (g_X5_flowStep τ n) = _; unfold g_X5_flowStep; rw [if_neg c7, if_neg c8] <;> rfl
            exact ih  τ10  H locs ls ⟨by omega, by subst eτ10 ex9 ex6; first | exact hkn.2 | exact mAr_give hkn.2⟩ hw (lv_sub hl [2, 3, 4, 5, 0] rfl) (fun H locs ls hw hl => kont H locs ls (by rw [hstep]; exact hw) (by exact hl))
    refine loop _ 7 τ3  _ _ _ ⟨by decide, (by subst eτ3 ex2 eτ1; exact mAr_sea (mAr_start har))⟩ hw (lv_sub hl [1, 2, 3, 4, 0] rfl) (fun H locs ls hw hl => ?_)
    obtain ⟨τ11, eτ11⟩ : ∃ zz : sS, g_X5_flow 7 τ3 = zz := ⟨_, rfl⟩
    rw [eτ11] at hw
    refine lv_bipush (v := 8) hx hb dX5_day_238 (by decide) ?_
    refine mx_new (n := 8) hx hb (hts _ mX5_day_12) hK hw hA (by decide) rfl (Nat.le_of_ble_eq_true rfl) (Nat.le_of_ble_eq_true rfl) dX5_day_240 (fun q12 H hw => ?_)
    refine lv_astore (lv' := [(6, .ref q12), (0, .ref (a 0)), (1, .int x), (2, .int y), (3, .int z)]) hx hb dX5_day_242 hl (by decide) rfl (fun ls hl => ?_)
    refine lv_aload_n hx hb dX5_day_244 rfl (lv_at hl 1 rfl) ?_
    refine mg_rq hx hb hts iX5_day_X5 hown hK hw (by omega) (hts _ mX5_day_2) dX5_day_245 ?_
    refine lv_astore (lv' := [(7, .ref (a 1)), (6, .ref q12), (0, .ref (a 0)), (1, .int x), (2, .int y), (3, .int z)]) hx hb dX5_day_248 hl (by decide) rfl (fun ls hl => ?_)
    refine lv_aload hx hb dX5_day_250 (lv_at hl 0 rfl) ?_
    refine mg_qlen hx hb hK hw (by omega) dX5_day_252 ?_
    refine lv_istore (lv' := [(8, .int 8), (7, .ref (a 1)), (6, .ref q12), (0, .ref (a 0)), (1, .int x), (2, .int y), (3, .int z)]) hx hb dX5_day_253 hl (by decide) rfl (fun ls hl => ?_)
    refine lv_iconst (v := 0) hx hb dX5_day_255 (by decide) ?_
    refine lv_istore (lv' := [(9, .int 0), (8, .int 8), (7, .ref (a 1)), (6, .ref q12), (0, .ref (a 0)), (1, .int x), (2, .int y), (3, .int z)]) hx hb dX5_day_256 hl (by decide) rfl (fun ls hl => ?_)
    have loop2 : ∀ (Q : State → Prop) (n : Nat) (k : Nat) (τ : sS)  (H : Heap) (locs : List Loc) (ls : Array Slot), k + n = 8 → mH D a cs N (mA a N s.heap.size) s.heap τ ([(q12, .inl (cs 1, 8, .inl (fun _ => 0)))]) H locs → lv_has ls 11 [(0, .ref (a 0)), (1, .int x), (2, .int y), (3, .int z), (6, .ref q12), (7, .ref (a 1)), (8, .int 8), (9, .int (nI k))] → (∀ (H : Heap) (locs : List Loc) (ls : Array Slot), mH D a cs N (mA a N s.heap.size) s.heap (g_X5_rain z n k τ) ([(q12, .inl (cs 1, 8, .inl (fun _ => 0)))]) H locs → lv_has ls 11 [(0, .ref (a 0)), (1, .int x), (2, .int y), (6, .ref q12)] → W p l e { frames := 3, cells := 1, slots := 8, locals := 69 } s m #[Value.ref (a 0), Value.int x, Value.int y, Value.int z] below meth c H locs 1 8 Q (F0 m 306 ls [])) → W p l e { frames := 3, cells := 1, slots := 8, locals := 69 } s m #[Value.ref (a 0), Value.int x, Value.int y, Value.int z] below meth c H locs 1 8 Q (F0 m 258 ls []) := by
      intro Q n
      induction n with
      | zero =>
        intro k τ  H locs ls hkn hw hl kont
        refine lv_iload hx hb dX5_day_258 (lv_at hl 7 rfl) ?_
        refine lv_iload hx hb dX5_day_260 (lv_at hl 6 rfl) ?_
        refine lv_icmp_ge (tgt := 306) hx hb dX5_day_262 (by decide) (fun c13 => ?_) (fun c13 => absurd (by rw [show k = 8 by omega]; decide) c13)
        exact kont H locs ls hw (lv_sub hl [0, 1, 2, 4] rfl)
      | succ n ih =>
        intro k τ  H locs ls hkn hw hl kont
        refine lv_iload hx hb dX5_day_258 (lv_at hl 7 rfl) ?_
        refine lv_iload hx hb dX5_day_260 (lv_at hl 6 rfl) ?_
        refine lv_icmp_ge (tgt := 306) hx hb dX5_day_262 (by decide) (fun c14 => absurd c14 (nI_ge (a := k) (b := 8) (by omega) (by decide))) (fun c14 => ?_)
        refine lv_aload hx hb dX5_day_265 (lv_at hl 5 rfl) ?_
        refine lv_iload hx hb dX5_day_267 (lv_at hl 7 rfl) ?_
        refine mg_q (k := k) hx hb hK hw (by omega) (by omega) rfl dX5_day_269 ?_
        refine lv_astore (lv' := [(10, .ref (a (2 + k))), (0, .ref (a 0)), (1, .int x), (2, .int y), (3, .int z), (6, .ref q12), (7, .ref (a 1)), (8, .int 8), (9, .int (nI k))]) hx hb dX5_day_270 hl (by decide) rfl (fun ls hl => ?_)
        refine lv_aload hx hb dX5_day_272 (lv_at hl 0 rfl) ?_
        refine mg_p hx hb hts iX5_day_X4 hown hK hw (by omega) (by omega) 9 (by decide) (hts _ mX5_day_13) dX5_day_274 ?_
        refine lv_if_ne (tgt := 300) hx hb dX5_day_277 (by decide) (fun c15 => ?_) (fun c15 => ?_)
        · refine lv_iinc (v := nI (k + 1)) (lv' := [(9, .int (nI (k + 1))), (10, .ref (a (2 + k))), (0, .ref (a 0)), (1, .int x), (2, .int y), (3, .int z), (6, .ref q12), (7, .ref (a 1)), (8, .int 8)]) hx hb dX5_day_300 hl (k := 8) rfl (nI_1 k) (by decide) rfl (fun ls hl => ?_)
          refine lv_goto (tgt := 258) hx hb dX5_day_303 (by decide) ?_
          have hstep : g_X5_rain z (n + 1) k τ = g_X5_rain z n (k + 1) τ := by
            show g_X5_rain z n (k + 1) (g_X5_rainStep z τ k) = _; unfold g_X5_rainStep; rw [if_neg c15] <;> rfl
          exact ih (k + 1) τ  H locs ls (by omega) hw (lv_sub hl [2, 3, 4, 5, 6, 7, 8, 0] rfl) (fun H locs ls hw hl => kont H locs ls (by rw [hstep]; exact hw) (by exact hl))
        · refine lv_aload hx hb dX5_day_280 (lv_at hl 0 rfl) ?_
          refine lv_dup hx hb dX5_day_282 rfl ?_
          refine mg_p hx hb hts iX5_day_X4 hown hK hw (by omega) (by omega) 5 (by decide) (hts _ mX5_day_14) dX5_day_283 ?_
          refine lv_iload_n hx hb dX5_day_286 rfl (lv_at hl 4 rfl) ?_
          refine lv_aload hx hb dX5_day_287 (lv_at hl 0 rfl) ?_
          refine mg_p hx hb hts iX5_day_X4 hown hK hw (by omega) (by omega) 0 (by decide) (hts _ mX5_day_7) dX5_day_289 ?_
          refine lv_imul hx hb dX5_day_292 ?_
          refine lv_bipush (v := 10) hx hb dX5_day_293 (by decide) ?_
          refine lv_idiv hx hb dX5_day_295 (by decide) ?_
          refine lv_iadd hx hb dX5_day_296 ?_
          refine lw_topi (fun x16 ex16 => ?_)
          refine mp_p hx hb hts iX5_day_X4 hown hK hw (by omega) (by omega) 5 (by decide) (hts _ mX5_day_14) dX5_day_297 (fun H locs hw => ?_)
          obtain ⟨τ17, eτ17⟩ : ∃ zz : sS, va_up τ (2 + k) (upd (τ (2 + k)) 5 x16) = zz := ⟨_, rfl⟩
          rw [eτ17] at hw
          refine lv_iinc (v := nI (k + 1)) (lv' := [(9, .int (nI (k + 1))), (10, .ref (a (2 + k))), (0, .ref (a 0)), (1, .int x), (2, .int y), (3, .int z), (6, .ref q12), (7, .ref (a 1)), (8, .int 8)]) hx hb dX5_day_300 hl (k := 8) rfl (nI_1 k) (by decide) rfl (fun ls hl => ?_)
          refine lv_goto (tgt := 258) hx hb dX5_day_303 (by decide) ?_
          have hstep : g_X5_rain z (n + 1) k τ = g_X5_rain z n (k + 1) τ17 := by
            subst eτ17 ex16; show g_X5_rain z n (k + 1) (g_X5_rainStep z τ k) = _; unfold g_X5_rainStep; rw [if_pos c15] <;> rfl
          exact ih (k + 1) τ17  H locs ls (by omega) hw (lv_sub hl [2, 3, 4, 5, 6, 7, 8, 0] rfl) (fun H locs ls hw hl => kont H locs ls (by rw [hstep]; exact hw) (by exact hl))
    refine loop2 _ 8 0 τ11  _ _ _ (by decide) hw (lv_sub hl [4, 5, 6, 7, 3, 2, 1, 0] rfl) (fun H locs ls hw hl => ?_)
    obtain ⟨τ18, eτ18⟩ : ∃ zz : sS, g_X5_rain z 8 0 τ11 = zz := ⟨_, rfl⟩
    rw [eτ18] at hw
    refine lv_aload_n hx hb dX5_day_306 rfl (lv_at hl 0 rfl) ?_
    refine mg_rq hx hb hts iX5_day_X5 hown hK hw (by omega) (hts _ mX5_day_2) dX5_day_307 ?_
    refine lv_astore (lv' := [(7, .ref (a 1)), (0, .ref (a 0)), (1, .int x), (2, .int y), (6, .ref q12)]) hx hb dX5_day_310 hl (by decide) rfl (fun ls hl => ?_)
    refine lv_aload hx hb dX5_day_312 (lv_at hl 0 rfl) ?_
    refine mg_qlen hx hb hK hw (by omega) dX5_day_314 ?_
    refine lv_istore (lv' := [(8, .int 8), (7, .ref (a 1)), (0, .ref (a 0)), (1, .int x), (2, .int y), (6, .ref q12)]) hx hb dX5_day_315 hl (by decide) rfl (fun ls hl => ?_)
    refine lv_iconst (v := 0) hx hb dX5_day_317 (by decide) ?_
    refine lv_istore (lv' := [(9, .int 0), (8, .int 8), (7, .ref (a 1)), (0, .ref (a 0)), (1, .int x), (2, .int y), (6, .ref q12)]) hx hb dX5_day_318 hl (by decide) rfl (fun ls hl => ?_)
    have loop3 : ∀ (Q : State → Prop) (n : Nat) (k : Nat) (τ : sS)  (H : Heap) (locs : List Loc) (ls : Array Slot), k + n = 8 → mH D a cs N (mA a N s.heap.size) s.heap τ ([(q12, .inl (cs 1, 8, .inl (fun _ => 0)))]) H locs → lv_has ls 11 [(0, .ref (a 0)), (1, .int x), (2, .int y), (6, .ref q12), (7, .ref (a 1)), (8, .int 8), (9, .int (nI k))] → (∀ (H : Heap) (locs : List Loc) (ls : Array Slot), mH D a cs N (mA a N s.heap.size) s.heap (g_X5_dry (x + y) n k τ) ([(q12, .inl (cs 1, 8, .inl (fun _ => 0)))]) H locs → lv_has ls 11 [(0, .ref (a 0)), (6, .ref q12)] → W p l e { frames := 3, cells := 1, slots := 8, locals := 69 } s m #[Value.ref (a 0), Value.int x, Value.int y, Value.int z] below meth c H locs 1 8 Q (F0 m 348 ls [])) → W p l e { frames := 3, cells := 1, slots := 8, locals := 69 } s m #[Value.ref (a 0), Value.int x, Value.int y, Value.int z] below meth c H locs 1 8 Q (F0 m 320 ls []) := by
      intro Q n
      induction n with
      | zero =>
        intro k τ  H locs ls hkn hw hl kont
        refine lv_iload hx hb dX5_day_320 (lv_at hl 6 rfl) ?_
        refine lv_iload hx hb dX5_day_322 (lv_at hl 5 rfl) ?_
        refine lv_icmp_ge (tgt := 348) hx hb dX5_day_324 (by decide) (fun c19 => ?_) (fun c19 => absurd (by rw [show k = 8 by omega]; decide) c19)
        exact kont H locs ls hw (lv_sub hl [0, 3] rfl)
      | succ n ih =>
        intro k τ  H locs ls hkn hw hl kont
        refine lv_iload hx hb dX5_day_320 (lv_at hl 6 rfl) ?_
        refine lv_iload hx hb dX5_day_322 (lv_at hl 5 rfl) ?_
        refine lv_icmp_ge (tgt := 348) hx hb dX5_day_324 (by decide) (fun c20 => absurd c20 (nI_ge (a := k) (b := 8) (by omega) (by decide))) (fun c20 => ?_)
        refine lv_aload hx hb dX5_day_327 (lv_at hl 4 rfl) ?_
        refine lv_iload hx hb dX5_day_329 (lv_at hl 6 rfl) ?_
        refine mg_q (k := k) hx hb hK hw (by omega) (by omega) rfl dX5_day_331 ?_
        refine lv_astore (lv' := [(10, .ref (a (2 + k))), (0, .ref (a 0)), (1, .int x), (2, .int y), (6, .ref q12), (7, .ref (a 1)), (8, .int 8), (9, .int (nI k))]) hx hb dX5_day_332 hl (by decide) rfl (fun ls hl => ?_)
        refine lv_aload hx hb dX5_day_334 (lv_at hl 0 rfl) ?_
        refine lv_iload_n hx hb dX5_day_336 rfl (lv_at hl 2 rfl) ?_
        refine lv_iload_n hx hb dX5_day_337 rfl (lv_at hl 3 rfl) ?_
        refine lv_iadd hx hb dX5_day_338 ?_
        have hw := mH_foc (i := 2 + k) hw
        refine mc_v (mr_V (i := 2 + k) (As := [.int (x + y)]) (rest := []) ⟨hx, hb, hml, hown, hts⟩ (zX4_dry l D a cs N (by omega) _ (2 + k) (by omega) _ (x + y) _) (cwV 1 hts gX5_day_X4_dry rfl rfl rfl (by decide +kernel) ⟨Nat.le_of_ble_eq_true rfl, Nat.le_of_ble_eq_true rfl⟩) hK hN2 hw (by omega) (mE_p (by omega)) kcX4 rfl hl.1 (Nat.le_of_ble_eq_true rfl) dX5_day_339 ⟨Nat.le_of_ble_eq_true rfl, Nat.le_of_ble_eq_true rfl⟩) hw hA (fun H locs hw => ?_)
        obtain ⟨τ21, eτ21⟩ : ∃ zz : sS, va_up τ (2 + k) (g_X4_dry (τ (2 + k)) (x + y)) = zz := ⟨_, rfl⟩
        rw [eτ21] at hw
        refine lv_iinc (v := nI (k + 1)) (lv' := [(9, .int (nI (k + 1))), (10, .ref (a (2 + k))), (0, .ref (a 0)), (1, .int x), (2, .int y), (6, .ref q12), (7, .ref (a 1)), (8, .int 8)]) hx hb dX5_day_342 hl (k := 7) rfl (nI_1 k) (by decide) rfl (fun ls hl => ?_)
        refine lv_goto (tgt := 320) hx hb dX5_day_345 (by decide) ?_
        have hstep : g_X5_dry (x + y) (n + 1) k τ = g_X5_dry (x + y) n (k + 1) τ21 := by
          subst eτ21; rfl
        exact ih (k + 1) τ21  H locs ls (by omega) hw (lv_sub hl [2, 3, 4, 5, 6, 7, 0] rfl) (fun H locs ls hw hl => kont H locs ls (by rw [hstep]; exact hw) (by exact hl))
    refine loop3 _ 8 0 τ18  _ _ _ (by decide) hw (lv_sub hl [3, 4, 5, 6, 2, 1, 0] rfl) (fun H locs ls hw hl => ?_)
    obtain ⟨τ22, eτ22⟩ : ∃ zz : sS, g_X5_dry (x + y) 8 0 τ18 = zz := ⟨_, rfl⟩
    rw [eτ22] at hw
    refine lv_aload_n hx hb dX5_day_348 rfl (lv_at hl 0 rfl) ?_
    refine mg_rq hx hb hts iX5_day_X5 hown hK hw (by omega) (hts _ mX5_day_2) dX5_day_349 ?_
    refine lv_astore (lv' := [(7, .ref (a 1)), (0, .ref (a 0)), (6, .ref q12)]) hx hb dX5_day_352 hl (by decide) rfl (fun ls hl => ?_)
    refine lv_aload hx hb dX5_day_354 (lv_at hl 0 rfl) ?_
    refine mg_qlen hx hb hK hw (by omega) dX5_day_356 ?_
    refine lv_istore (lv' := [(8, .int 8), (7, .ref (a 1)), (0, .ref (a 0)), (6, .ref q12)]) hx hb dX5_day_357 hl (by decide) rfl (fun ls hl => ?_)
    refine lv_iconst (v := 0) hx hb dX5_day_359 (by decide) ?_
    refine lv_istore (lv' := [(9, .int 0), (8, .int 8), (7, .ref (a 1)), (0, .ref (a 0)), (6, .ref q12)]) hx hb dX5_day_360 hl (by decide) rfl (fun ls hl => ?_)
    have loop4 : ∀ (Q : State → Prop) (n : Nat) (k : Nat) (τ : sS)  (H : Heap) (locs : List Loc) (ls : Array Slot), k + n = 8 → mH D a cs N (mA a N s.heap.size) s.heap τ ([(q12, .inl (cs 1, 8, .inl (fun _ => 0)))]) H locs → lv_has ls 11 [(0, .ref (a 0)), (6, .ref q12), (7, .ref (a 1)), (8, .int 8), (9, .int (nI k))] → (∀ (H : Heap) (locs : List Loc) (ls : Array Slot), mH D a cs N (mA a N s.heap.size) s.heap (g_X5_mix n k τ) ([(q12, .inl (cs 1, 8, .inl (fun _ => 0)))]) H locs → lv_has ls 11 [(0, .ref (a 0)), (6, .ref q12)] → W p l e { frames := 3, cells := 1, slots := 8, locals := 69 } s m #[Value.ref (a 0), Value.int x, Value.int y, Value.int z] below meth c H locs 1 8 Q (F0 m 395 ls [])) → W p l e { frames := 3, cells := 1, slots := 8, locals := 69 } s m #[Value.ref (a 0), Value.int x, Value.int y, Value.int z] below meth c H locs 1 8 Q (F0 m 362 ls []) := by
      intro Q n
      induction n with
      | zero =>
        intro k τ  H locs ls hkn hw hl kont
        refine lv_iload hx hb dX5_day_362 (lv_at hl 4 rfl) ?_
        refine lv_iload hx hb dX5_day_364 (lv_at hl 3 rfl) ?_
        refine lv_icmp_ge (tgt := 395) hx hb dX5_day_366 (by decide) (fun c23 => ?_) (fun c23 => absurd (by rw [show k = 8 by omega]; decide) c23)
        exact kont H locs ls hw (lv_sub hl [0, 1] rfl)
      | succ n ih =>
        intro k τ  H locs ls hkn hw hl kont
        refine lv_iload hx hb dX5_day_362 (lv_at hl 4 rfl) ?_
        refine lv_iload hx hb dX5_day_364 (lv_at hl 3 rfl) ?_
        refine lv_icmp_ge (tgt := 395) hx hb dX5_day_366 (by decide) (fun c24 => absurd c24 (nI_ge (a := k) (b := 8) (by omega) (by decide))) (fun c24 => ?_)
        refine lv_aload hx hb dX5_day_369 (lv_at hl 2 rfl) ?_
        refine lv_iload hx hb dX5_day_371 (lv_at hl 4 rfl) ?_
        refine mg_q (k := k) hx hb hK hw (by omega) (by omega) rfl dX5_day_373 ?_
        refine lv_astore (lv' := [(10, .ref (a (2 + k))), (0, .ref (a 0)), (6, .ref q12), (7, .ref (a 1)), (8, .int 8), (9, .int (nI k))]) hx hb dX5_day_374 hl (by decide) rfl (fun ls hl => ?_)
        refine lv_aload hx hb dX5_day_376 (lv_at hl 0 rfl) ?_
        refine mg_p hx hb hts iX5_day_X4 hown hK hw (by omega) (by omega) 5 (by decide) (hts _ mX5_day_14) dX5_day_378 ?_
        refine lv_if_le (tgt := 389) hx hb dX5_day_381 (by decide) (fun c25 => ?_) (fun c25 => ?_)
        · refine lv_iinc (v := nI (k + 1)) (lv' := [(9, .int (nI (k + 1))), (10, .ref (a (2 + k))), (0, .ref (a 0)), (6, .ref q12), (7, .ref (a 1)), (8, .int 8)]) hx hb dX5_day_389 hl (k := 5) rfl (nI_1 k) (by decide) rfl (fun ls hl => ?_)
          refine lv_goto (tgt := 362) hx hb dX5_day_392 (by decide) ?_
          have hstep : g_X5_mix (n + 1) k τ = g_X5_mix n (k + 1) τ := by
            show g_X5_mix n (k + 1) (g_X5_mixStep τ k) = _; unfold g_X5_mixStep; rw [if_pos c25] <;> rfl
          exact ih (k + 1) τ  H locs ls (by omega) hw (lv_sub hl [2, 3, 4, 5, 0] rfl) (fun H locs ls hw hl => kont H locs ls (by rw [hstep]; exact hw) (by exact hl))
        · refine lv_aload hx hb dX5_day_384 (lv_at hl 0 rfl) ?_
          have hw := mH_foc (i := 2 + k) hw
          refine mc_v (mr_V (i := 2 + k) (As := []) (rest := []) ⟨hx, hb, hml, hown, hts⟩ (zX4_mix l D a cs N (by omega) _ (2 + k) (by omega) _ _) (cwV 0 hts gX5_day_X4_mix rfl rfl rfl (by decide +kernel) ⟨Nat.le_of_ble_eq_true rfl, Nat.le_of_ble_eq_true rfl⟩) hK hN2 hw (by omega) (mE_p (by omega)) kcX4 rfl hl.1 (Nat.le_of_ble_eq_true rfl) dX5_day_386 ⟨Nat.le_of_ble_eq_true rfl, Nat.le_of_ble_eq_true rfl⟩) hw hA (fun H locs hw => ?_)
          obtain ⟨τ26, eτ26⟩ : ∃ zz : sS, va_up τ (2 + k) (g_X4_mix (τ (2 + k))) = zz := ⟨_, rfl⟩
          rw [eτ26] at hw
          refine lv_iinc (v := nI (k + 1)) (lv' := [(9, .int (nI (k + 1))), (10, .ref (a (2 + k))), (0, .ref (a 0)), (6, .ref q12), (7, .ref (a 1)), (8, .int 8)]) hx hb dX5_day_389 hl (k := 5) rfl (nI_1 k) (by decide) rfl (fun ls hl => ?_)
          refine lv_goto (tgt := 362) hx hb dX5_day_392 (by decide) ?_
          have hstep : g_X5_mix (n + 1) k τ = g_X5_mix n (k + 1) τ26 := by
            subst eτ26; show g_X5_mix n (k + 1) (g_X5_mixStep τ k) = _; unfold g_X5_mixStep; rw [if_neg c25] <;> rfl
          exact ih (k + 1) τ26  H locs ls (by omega) hw (lv_sub hl [2, 3, 4, 5, 0] rfl) (fun H locs ls hw hl => kont H locs ls (by rw [hstep]; exact hw) (by exact hl))
    refine loop4 _ 8 0 τ22  _ _ _ (by decide) hw (lv_sub hl [3, 4, 2, 1, 0] rfl) (fun H locs ls hw hl => ?_)
    obtain ⟨τ27, eτ27⟩ : ∃ zz : sS, g_X5_mix 8 0 τ22 = zz := ⟨_, rfl⟩
    rw [eτ27] at hw
    refine lv_iconst (v := 0) hx hb dX5_day_395 (by decide) ?_
    refine lv_istore (lv' := [(7, .int 0), (0, .ref (a 0)), (6, .ref q12)]) hx hb dX5_day_396 hl (by decide) rfl (fun ls hl => ?_)
    have loop5 : ∀ (Q : State → Prop) (n : Nat) (k : Nat) (τ : sS) (fa : Nat → Int32) (H : Heap) (locs : List Loc) (ls : Array Slot), k + n = 8 → mH D a cs N (mA a N s.heap.size) s.heap τ ([(q12, .inl (cs 1, 8, .inl fa))]) H locs → lv_has ls 11 [(0, .ref (a 0)), (6, .ref q12), (7, .int (nI k))] → (∀ (H : Heap) (locs : List Loc) (ls : Array Slot), mH D a cs N (mA a N s.heap.size) s.heap (g_X5_fall n k τ) ([(q12, .inl (cs 1, 8, .inl (g_X5_fell n k τ fa)))]) H locs → lv_has ls 11 [(6, .ref q12)] → W p l e { frames := 3, cells := 1, slots := 8, locals := 69 } s m #[Value.ref (a 0), Value.int x, Value.int y, Value.int z] below meth c H locs 1 8 Q (F0 m 426 ls [])) → W p l e { frames := 3, cells := 1, slots := 8, locals := 69 } s m #[Value.ref (a 0), Value.int x, Value.int y, Value.int z] below meth c H locs 1 8 Q (F0 m 398 ls []) := by
      intro Q n
      induction n with
      | zero =>
        intro k τ fa H locs ls hkn hw hl kont
        refine lv_iload hx hb dX5_day_398 (lv_at hl 2 rfl) ?_
        refine lv_bipush (v := 8) hx hb dX5_day_400 (by decide) ?_
        refine lv_icmp_ge (tgt := 426) hx hb dX5_day_402 (by decide) (fun c28 => ?_) (fun c28 => absurd (by rw [show k = 8 by omega]; decide) c28)
        exact kont H locs ls hw (lv_sub hl [1] rfl)
      | succ n ih =>
        intro k τ fa H locs ls hkn hw hl kont
        refine lv_iload hx hb dX5_day_398 (lv_at hl 2 rfl) ?_
        refine lv_bipush (v := 8) hx hb dX5_day_400 (by decide) ?_
        refine lv_icmp_ge (tgt := 426) hx hb dX5_day_402 (by decide) (fun c29 => absurd c29 (nI_ge (a := k) (b := 8) (by omega) (by decide))) (fun c29 => ?_)
        refine lv_aload hx hb dX5_day_405 (lv_at hl 1 rfl) ?_
        refine lv_iload hx hb dX5_day_407 (lv_at hl 2 rfl) ?_
        refine lv_aload_n hx hb dX5_day_409 rfl (lv_at hl 0 rfl) ?_
        refine mg_rq hx hb hts iX5_day_X5 hown hK hw (by omega) (hts _ mX5_day_2) dX5_day_410 ?_
        refine lv_iload hx hb dX5_day_413 (lv_at hl 2 rfl) ?_
        refine mg_q (k := k) hx hb hK hw (by omega) (by omega) rfl dX5_day_415 ?_
        have hw := mH_foc (i := 2 + k) hw
        refine mc_i (mr_V (i := 2 + k) (As := []) (rest := [.int (nI k), .ref q12]) ⟨hx, hb, hml, hown, hts⟩ (zX4_fall l D a cs N (by omega) _ (2 + k) (by omega) _ _) (cwV 0 hts gX5_day_X4_fall rfl rfl rfl (by decide +kernel) ⟨Nat.le_of_ble_eq_true rfl, Nat.le_of_ble_eq_true rfl⟩) hK hN2 hw (by omega) (mE_p (by omega)) kcX4 rfl hl.1 (Nat.le_of_ble_eq_true rfl) dX5_day_416 ⟨Nat.le_of_ble_eq_true rfl, Nat.le_of_ble_eq_true rfl⟩) hw hA (fun H locs hw => ?_)
        obtain ⟨τ30, eτ30⟩ : ∃ zz : sS, va_up τ (2 + k) (g_X4_fall (τ (2 + k))) = zz := ⟨_, rfl⟩
        rw [eτ30] at hw
        refine mx_st (n := 8) (k := k) (f := fa) hx hb hK hw 0 rfl (by omega) (by decide) rfl dX5_day_419 (fun H locs hw => ?_)
        refine lv_iinc (v := nI (k + 1)) (lv' := [(7, .int (nI (k + 1))), (0, .ref (a 0)), (6, .ref q12)]) hx hb dX5_day_420 hl (k := 2) rfl (nI_1 k) (by decide) rfl (fun ls hl => ?_)
        refine lv_goto (tgt := 398) hx hb dX5_day_423 (by decide) ?_
        have hstep : g_X5_fall (n + 1) k τ = g_X5_fall n (k + 1) τ30 := by
          subst eτ30; rfl
        have hval0 : g_X5_fell (n + 1) k τ fa = g_X5_fell n (k + 1) τ30 (upd fa k (g_X4_fallV (τ (2 + k)))) := by
          subst eτ30; rfl
        exact ih (k + 1) τ30 (upd fa k (g_X4_fallV (τ (2 + k)))) H locs ls (by omega) hw (lv_sub hl [1, 2, 0] rfl) (fun H locs ls hw hl => kont H locs ls (by rw [hstep, hval0]; exact hw) (by exact hl))
    refine loop5 _ 8 0 τ27 (fun _ => 0) _ _ _ (by decide) hw (lv_sub hl [1, 2, 0] rfl) (fun H locs ls hw hl => ?_)
    obtain ⟨τ31, eτ31⟩ : ∃ zz : sS, g_X5_fall 8 0 τ27 = zz := ⟨_, rfl⟩
    rw [eτ31] at hw
    refine lv_aload hx hb dX5_day_426 (lv_at hl 0 rfl) ?_
    have hσe : τ31 = g_X5_day σ x y z := by subst eτ31 eτ27 eτ22 eτ18 eτ11 eτ3 ex2 eτ1; rfl
    have hfe : (g_X5_fell 8 0 τ27 (fun _ => 0)) = g_X5_made σ x y z := by subst eτ31 eτ27 eτ22 eτ18 eτ11 eτ3 ex2 eτ1; rfl
    rw [hσe, hfe] at hw
    exact me_r hx hb hr hlocks hw dX5_day_428
  refine lv_if_eq (tgt := 131) hx hb dX5_day_41 (by decide) (fun c32 => ?_) (fun c32 => ?_)
  · exact km131 H locs ls ⟨(by have hme : τ1 = g_X5_seaStep (g_X5_start σ) := (by subst ex2 eτ1; unfold g_X5_seaStep g_X5_seaD g_X5_start; rw [if_pos c32] <;> first | rfl | (unfold g_X5_sea; simp only [va_up_self, sup_up]; rfl)); rw [← hme]; exact hw), lv_sub hl [2, 3, 4, 5] rfl⟩
  · refine lv_iload hx hb dX5_day_44 (lv_at hl 0 rfl) ?_
    refine lv_if_le (tgt := 131) hx hb dX5_day_46 (by decide) (fun c33 => ?_) (fun c33 => ?_)
    · exact km131 H locs ls ⟨(by have hme : τ1 = g_X5_seaStep (g_X5_start σ) := (by subst ex2 eτ1; unfold g_X5_seaStep g_X5_seaD g_X5_start; rw [if_neg c32, if_pos c33] <;> first | rfl | (unfold g_X5_sea; simp only [va_up_self, sup_up]; rfl)); rw [← hme]; exact hw), lv_sub hl [2, 3, 4, 5] rfl⟩
    · refine lv_iload hx hb dX5_day_49 (lv_at hl 0 rfl) ?_
      refine lv_aload hx hb dX5_day_51 (lv_at hl 1 rfl) ?_
      refine mg_p hx hb hts iX5_day_X4 hown hK hw (by omega) (by omega) 0 (by decide) (hts _ mX5_day_7) dX5_day_53 ?_
      refine lv_imul hx hb dX5_day_56 ?_
      refine lv_iconst (v := 4) hx hb dX5_day_57 (by decide) ?_
      refine lv_idiv hx hb dX5_day_58 (by decide) ?_
      refine lw_topi (fun x34 ex34 => ?_)
      refine lv_istore (lv' := [(6, .int x34), (5, .int x2), (4, .ref (a (2 + 0))), (0, .ref (a 0)), (1, .int x), (2, .int y), (3, .int z)]) hx hb dX5_day_59 hl (by decide) rfl (fun ls hl => ?_)
      refine lv_aload hx hb dX5_day_61 (lv_at hl 2 rfl) ?_
      refine lv_dup hx hb dX5_day_63 rfl ?_
      refine mg_p hx hb hts iX5_day_X4 hown hK hw (by omega) (by omega) 1 (by decide) (hts _ mX5_day_15) dX5_day_64 ?_
      refine lv_iload hx hb dX5_day_67 (lv_at hl 0 rfl) ?_
      refine lv_iadd hx hb dX5_day_69 ?_
      refine mp_p hx hb hts iX5_day_X4 hown hK hw (by omega) (by omega) 1 (by decide) (hts _ mX5_day_15) dX5_day_70 (fun H locs hw => ?_)
      obtain ⟨τ35, eτ35⟩ : ∃ zz : sS, va_up τ1 (2 + 0) (upd (τ1 (2 + 0)) 1 ((τ1 (2 + 0) 1) + x34)) = zz := ⟨_, rfl⟩
      rw [eτ35] at hw
      refine lv_aload hx hb dX5_day_73 (lv_at hl 2 rfl) ?_
      refine lv_dup hx hb dX5_day_75 rfl ?_
      refine mg_p hx hb hts iX5_day_X4 hown hK hw (by omega) (by omega) 2 (by decide) (hts _ mX5_day_16) dX5_day_76 ?_
      refine lv_bipush (v := 30) hx hb dX5_day_79 (by decide) ?_
      refine lv_iload hx hb dX5_day_81 (lv_at hl 0 rfl) ?_
      refine lv_imul hx hb dX5_day_83 ?_
      refine lv_iadd hx hb dX5_day_84 ?_
      refine lw_topi (fun x36 ex36 => ?_)
      refine mp_p hx hb hts iX5_day_X4 hown hK hw (by omega) (by omega) 2 (by decide) (hts _ mX5_day_16) dX5_day_85 (fun H locs hw => ?_)
      obtain ⟨τ37, eτ37⟩ : ∃ zz : sS, va_up τ35 (2 + 0) (upd (τ35 (2 + 0)) 2 x36) = zz := ⟨_, rfl⟩
      rw [eτ37] at hw
      refine lv_aload hx hb dX5_day_88 (lv_at hl 2 rfl) ?_
      refine lv_dup hx hb dX5_day_90 rfl ?_
      refine mg_p hx hb hts iX5_day_X4 hown hK hw (by omega) (by omega) 3 (by decide) (hts _ mX5_day_17) dX5_day_91 ?_
      refine lv_iconst (v := 2) hx hb dX5_day_94 (by decide) ?_
      refine lv_iload hx hb dX5_day_95 (lv_at hl 0 rfl) ?_
      refine lv_imul hx hb dX5_day_97 ?_
      refine lv_iadd hx hb dX5_day_98 ?_
      refine lw_topi (fun x38 ex38 => ?_)
      refine mp_p hx hb hts iX5_day_X4 hown hK hw (by omega) (by omega) 3 (by decide) (hts _ mX5_day_17) dX5_day_99 (fun H locs hw => ?_)
      obtain ⟨τ39, eτ39⟩ : ∃ zz : sS, va_up τ37 (2 + 0) (upd (τ37 (2 + 0)) 3 x38) = zz := ⟨_, rfl⟩
      rw [eτ39] at hw
      refine lv_aload hx hb dX5_day_102 (lv_at hl 2 rfl) ?_
      refine lv_dup hx hb dX5_day_104 rfl ?_
      refine mg_p hx hb hts iX5_day_X4 hown hK hw (by omega) (by omega) 4 (by decide) (hts _ mX5_day_18) dX5_day_105 ?_
      refine lv_bipush (v := 6) hx hb dX5_day_108 (by decide) ?_
      refine lv_iload hx hb dX5_day_110 (lv_at hl 0 rfl) ?_
      refine lv_imul hx hb dX5_day_112 ?_
      refine lv_iadd hx hb dX5_day_113 ?_
      refine lw_topi (fun x40 ex40 => ?_)
      refine mp_p hx hb hts iX5_day_X4 hown hK hw (by omega) (by omega) 4 (by decide) (hts _ mX5_day_18) dX5_day_114 (fun H locs hw => ?_)
      obtain ⟨τ41, eτ41⟩ : ∃ zz : sS, va_up τ39 (2 + 0) (upd (τ39 (2 + 0)) 4 x40) = zz := ⟨_, rfl⟩
      rw [eτ41] at hw
      refine lv_aload_n hx hb dX5_day_117 rfl (lv_at hl 3 rfl) ?_
      refine lv_dup hx hb dX5_day_118 rfl ?_
      refine mg_r hx hb hts iX5_day_X5 hown hK hw (by omega) 2 (by decide) (hts _ mX5_day_19) dX5_day_119 ?_
      refine lv_bipush (v := 30) hx hb dX5_day_122 (by decide) ?_
      refine lv_iload hx hb dX5_day_124 (lv_at hl 0 rfl) ?_
      refine lv_imul hx hb dX5_day_126 ?_
      refine lv_iadd hx hb dX5_day_127 ?_
      refine mp_r hx hb hts iX5_day_X5 hown hK hw (by omega) 2 (by decide) (hts _ mX5_day_19) dX5_day_128 (fun H locs hw => ?_)
      obtain ⟨τ42, eτ42⟩ : ∃ zz : sS, va_up τ41 0 (upd (τ41 0) 2 ((τ41 0 2) + (30 * x34))) = zz := ⟨_, rfl⟩
      rw [eτ42] at hw
      exact km131 H locs ls ⟨(by have hme : τ42 = g_X5_seaStep (g_X5_start σ) := (by subst eτ42 eτ41 ex40 eτ39 ex38 eτ37 ex36 eτ35 ex34 ex2 eτ1; unfold g_X5_seaStep g_X5_seaD g_X5_start; rw [if_neg c32, if_neg c33] <;> first | rfl | (unfold g_X5_sea; simp only [va_up_self, sup_up]; rfl)); rw [← hme]; exact hw), lv_sub hl [3, 4, 5, 6] rfl⟩
