/-! Family(), SaltRow(): the whole world made -/
abbrev sF0 (h0 : Nat) : va_W := [(h0, .inr (kX0, [.null, .int 0, .int 0, .int 0, .int 0, .int 0]))]
abbrev sFE (r : Nat) : va_E := .inr (kX0, [.ref r, .int 0, .int 0, .int 0, .int 0, .int 0])
abbrev sIE (cI : ClassId) : va_E := .inl (cI, 3, .inl (fun _ => 0))
theorem mX0_i_l : Cond.methodLink RX0 3 objectInit ∈ wsX0_init := by decide +kernel
theorem mX0_i_i : Cond.instanceMethod objectInit ∈ wsX0_init := by decide +kernel
theorem mX0_i_c : Cond.code objectInit ⟨#[0xb1]⟩ 1 none ∈ wsX0_init := by decide +kernel
theorem mX0_i_a : Cond.arrayClass .int ∈ wsX0_init := by decide +kernel
theorem mX0_i_f : Cond.fieldLink RX0 9 "SaltRow$Family" "rights" "[I" ∈ wsX0_init := by decide +kernel
theorem iX0_i_X0 : ∀ w ∈ wsX00, w ∈ wsX0_init := by decide +kernel
set_option maxHeartbeats 4000000 in
set_option maxRecDepth 100000 in
/-- Family(): a row of three numbers comes -/
theorem zX0_init (l : Launch) (D : va_G) (h0 sz : Nat) : Met l yX0_init wsX0_init ({ frames := 1, cells := 1, slots := 3, locals := 12 }) (va_Pc [.ref h0] (fun U => U.heap.size = sz ∧ va_P D vwCl (sF0 h0) U.heap ∧ va_K D vwCl [] U ∧ va_D (fun _ => True) (sF0 h0))) (va_Qv (fun (_ : Nat × ClassId) => True) (fun u t => va_P D vwCl [(h0, sFE u.1), (u.1, sIE u.2)] t.heap ∧ va_K D vwCl [(u.2, .int)] t ∧ va_D (va_A (sF0 h0) sz) [(h0, sFE u.1), (u.1, sIE u.2)]) (va_A (sF0 h0) sz)) 1 3 (va_A (sF0 h0) sz) := by
  refine Met.ofW (cc := cX0_init) (maxL := 1) (ret := none) (by decide) rfl ?_
  intro p e s m args below meth c s₁ B hml hv
  obtain ⟨rfl, hsz, hP, hK, hD0⟩ := hv
  have hx := B.exec
  have hb := B.bytes
  have hr := B.returns
  have hts := atoms_spec (ws := wsX0_init) B.pre
  have hown : s.vm.findClass RX0 = some m.cls := findClass_of_methodNamed B.named
  have hlocks := B.notSynchronized
  have hin : meth.name = "<init>" := (name_of_methodNamed B.named B.method).1
  subst hsz
  have hD := hD0.self (sz := s.heap.size)
  have hA : ∀ q : Nat, s.heap.size ≤ q → (va_A (sF0 h0) s.heap.size) q := fun q h => Or.inr h
  have hS : va_S (va_A (sF0 h0) s.heap.size) s.heap s.heap [] := va_S.rf
  have hl := lv_entry ([.ref h0]) (n := 1) (Nat.le_of_ble_eq_true rfl)
  rw [lg_entry_eq]
  generalize (lg_sl ([.ref h0]) ++ List.replicate (1 - (lg_sl ([.ref h0])).length) Slot.unset).toArray = ls at hl ⊢
  have hl : lv_has ls 1 [(0, .ref h0)] := hl
  refine lv_aload_n hx hb dX0_init_0 rfl (lv_at hl 0 rfl) ?_
  refine W.objInit hx hb hown (hts _ mX0_i_l) (hts _ mX0_i_i) (hts _ mX0_i_c) rfl (by rw [hml]; exact hl.1) rfl dX0_init_1 (Nat.le_of_ble_eq_true rfl) (Nat.le_of_ble_eq_true rfl) ?_
  refine W.eq (g2 := F0 m 4 ls []) rfl ?_
  refine lv_aload_n hx hb dX0_init_4 rfl (lv_at hl 0 rfl) ?_
  refine lv_iconst (v := 3) hx hb dX0_init_5 (by decide) ?_
  refine va_newa (atype := .int) (ty := .int) (N' := 3) (a0 := (3, .inl (fun _ => 0))) hx hb (hts _ mX0_i_a) rfl hK hP hD hS hA (fun cA => rfl) (by decide) (by decide) (by decide) (Nat.le_of_ble_eq_true rfl) (Nat.le_of_ble_eq_true rfl) dX0_init_6 (fun q cA H hK hP hD hS => ?_)
  refine va_putF (D := D) (ci := kX0) (v := .ref q) (ty := .array .int) (C := RX0) (T := TX0) (N := 6) hx hb hts iX0_i_X0 tyX0 tyX0_ok nmX0 hown hK hP hD hS 0 rfl kcX0 0 (by decide) (hts _ mX0_i_f) (fun _ h9 => h9) rfl hin rfl (by decide +kernel) rfl rfl (Nat.le_of_ble_eq_true rfl) dX0_init_8 (fun H locs hP hD hS => ?_)
  exact W.vret hx hb hr (fun t ht hW => ⟨⟨(q, cA), rfl, trivial, by rw [ht]; exact hP, va_K.moved hW.alike hK, hD⟩, hS.F ht⟩) hS.2.2 dX0_init_11 hlocks
/-- one class of arrays of a type -/
theorem va_K_one {D : va_G} {cl : List vw_C} {t1 t2 : List (ClassId × FieldType)} {U : State} {i j : Nat} {c1 c2 : ClassId} {ty : FieldType} (h1 : va_K D cl t1 U) (h2 : va_K D cl t2 U) (e1 : t1[i]? = some (c1, ty)) (e2 : t2[j]? = some (c2, ty)) : c1 = c2 := by
  have a1 := (h1.2 i _ e1).2
  have a2 := (h2.2 j _ e2).2
  cases ty with
  | object C =>
    obtain ⟨_, _, _, _, _, f1⟩ := a1
    obtain ⟨_, _, _, _, _, f2⟩ := a2
    exact Option.some.inj (f1.symm.trans f2)
  | _ => exact Option.some.inj (a1.symm.trans a2)
theorem va_D_fst {A : Nat → Prop} {w w' : va_W} (h : va_D A w) (e : w.map Prod.fst = w'.map Prod.fst) : va_D A w' := by
  have key : ∀ (k : Nat) (q : Nat × va_E), w'[k]? = some q → ∃ q0, w[k]? = some q0 ∧ q0.1 = q.1 := by
    intro k q hk
    have h1 : (w.map Prod.fst)[k]? = some q.1 := by rw [e, List.getElem?_map, hk]; rfl
    rw [List.getElem?_map] at h1
    cases hw : w[k]? with
    | none => rw [hw] at h1; cases h1
    | some q0 => rw [hw] at h1; exact ⟨q0, rfl, Option.some.inj h1⟩
  refine ⟨fun i j x y hi hj hxy => ?_, fun k q hk => ?_⟩
  · obtain ⟨x0, h1, h2⟩ := key i x hi
    obtain ⟨y0, h3, h4⟩ := key j y hj
    exact h.1 i j x0 y0 h1 h3 (h2.trans (hxy.trans h4.symm))
  · obtain ⟨q0, h1, h2⟩ := key k q hk
    rw [← h2]
    exact h.2 k q0 h1
theorem sQ_cell {c : ClassId} {n : Nat} {f g : Nat → Option Nat} (h : ∀ j, j < n → f j = g j) : vp_cell c (n, .inr (.inr (.inr (.inr f)))) = vp_cell c (n, .inr (.inr (.inr (.inr g)))) := by
  rw [vp_cell_q, vp_cell_q]
  unfold arrV
  congr 1
  congr 1
  funext j
  show va_rf (f j.val) = va_rf (g j.val)
  rw [h j.val j.isLt]
theorem len8 {L : List Nat} (h : L.length = 8) : ∃ x0 x1 x2 x3 x4 x5 x6 x7, L = [x0, x1, x2, x3, x4, x5, x6, x7] := by
  match L, h with
  | [x0, x1, x2, x3, x4, x5, x6, x7], _ => exact ⟨x0, x1, x2, x3, x4, x5, x6, x7, rfl⟩
theorem len6 {L : List (Nat × Nat)} (h : L.length = 6) : ∃ x0 x1 x2 x3 x4 x5, L = [x0, x1, x2, x3, x4, x5] := by
  match L, h with
  | [x0, x1, x2, x3, x4, x5], _ => exact ⟨x0, x1, x2, x3, x4, x5, rfl⟩
/-- a new object's numbers -/
def f_new : sS := fun i k => if 5 ≤ i ∧ i < 21 ∧ k = 0 then 3 else 0
def sFp (cI : ClassId) (F : List (Nat × Nat)) : va_W := F.flatMap (fun x => [(x.1, sFE x.2), (x.2, sIE cI)])
theorem sFp_app (cI : ClassId) (F : List (Nat × Nat)) (x : Nat × Nat) : sFp cI (F ++ [x]) = sFp cI F ++ [(x.1, sFE x.2), (x.2, sIE cI)] := by simp [sFp]
/-- the six fixed cells of the walk -/
abbrev sX6 (h0 r0 q0 r1 q1 g : Nat) (cP cG : ClassId) (L0 L1 : List Nat) (F : List (Nat × Nat)) : va_W := [(h0, .inr (kX3, [.ref r0, .ref r1, .ref g, .int 0, .int 0, .int 0, .int 0, .int 0, .int 0, .int 0])), (r0, sRE q0), (q0, .inl (cP, sQl L0 8)), (r1, sRE q1), (q1, .inl (cP, sQl L1 8)), (g, .inl (cG, sQl (F.map Prod.fst) 6))]
theorem sW_made {D : va_G} {A : Nat → Prop} {H : Heap} {h0 r0 q0 r1 q1 g : Nat} {cP cG cI : ClassId} {L0 L1 : List Nat} {F : List (Nat × Nat)} (h8 : L0.length = 8) (h9 : L1.length = 8) (h6 : F.length = 6)
    (hP : va_P D vwCl (sX6 h0 r0 q0 r1 q1 g cP cG L0 L1 F ++ ((sPl L1 ++ sPl L0) ++ sFp cI F)) H) (hD : va_D A (sX6 h0 r0 q0 r1 q1 g cP cG L0 L1 F ++ ((sPl L1 ++ sPl L0) ++ sFp cI F))) :
    ∃ (a : Nat → Nat), a 0 = h0 ∧ va_P D vwCl (sW a (fun k => if k = 0 then cP else if k = 1 then cG else cI) f_new) H ∧ va_D A (sW a (fun k => if k = 0 then cP else if k = 1 then cG else cI) f_new) := by
  obtain ⟨x0, x1, x2, x3, x4, x5, x6, x7, rfl⟩ := len8 h8
  obtain ⟨y0, y1, y2, y3, y4, y5, y6, y7, rfl⟩ := len8 h9
  obtain ⟨⟨f0, z0⟩, ⟨f1, z1⟩, ⟨f2, z2⟩, ⟨f3, z3⟩, ⟨f4, z4⟩, ⟨f5, z5⟩, rfl⟩ := len6 h6
  obtain ⟨a, ha⟩ : ∃ a : Nat → Nat, a = fun i => [h0, r0, r1, q0, q1, x0, x1, x2, x3, x4, x5, x6, x7, y0, y1, y2, y3, y4, y5, y6, y7, g, f0, f1, f2, f3, f4, f5, z0, z1, z2, z3, z4, z5].getD i 0 := ⟨_, rfl⟩
  have hP2 := hP.sub (ws' := _) [0, 1, 3, 2, 4, 14, 15, 16, 17, 18, 19, 20, 21, 6, 7, 8, 9, 10, 11, 12, 13, 5, 22, 24, 26, 28, 30, 32, 23, 25, 27, 29, 31, 33] rfl
  have hD2 := hD.sub (ws' := [(h0, .inr (kX3, [.ref r0, .ref r1, .ref g, .int 0, .int 0, .int 0, .int 0, .int 0, .int 0, .int 0])), (r0, sRE q0), (r1, sRE q1), (q0, .inl (cP, sQl [x0, x1, x2, x3, x4, x5, x6, x7] 8)), (q1, .inl (cP, sQl [y0, y1, y2, y3, y4, y5, y6, y7] 8)), (x0, sPE), (x1, sPE), (x2, sPE), (x3, sPE), (x4, sPE), (x5, sPE), (x6, sPE), (x7, sPE), (y0, sPE), (y1, sPE), (y2, sPE), (y3, sPE), (y4, sPE), (y5, sPE), (y6, sPE), (y7, sPE), (g, .inl (cG, sQl [f0, f1, f2, f3, f4, f5] 6)), (f0, sFE z0), (f1, sFE z1), (f2, sFE z2), (f3, sFE z3), (f4, sFE z4), (f5, sFE z5), (z0, sIE cI), (z1, sIE cI), (z2, sIE cI), (z3, sIE cI), (z4, sIE cI), (z5, sIE cI)]) [0, 1, 3, 2, 4, 14, 15, 16, 17, 18, 19, 20, 21, 6, 7, 8, 9, 10, 11, 12, 13, 5, 22, 24, 26, 28, 30, 32, 23, 25, 27, 29, 31, 33] (by decide) rfl
  refine ⟨a, by rw [ha]; rfl, ?_, va_D_fst hD2 (by rw [ha]; rfl)⟩
  intro k q hk
  obtain ⟨hi, rfl⟩ := sW_inv hk
  rw [ha]
  match k, hi with
  | 0, _ => exact hP2 0 _ rfl
  | 1, _ => exact hP2 1 _ rfl
  | 2, _ => exact hP2 2 _ rfl
  | 3, _ => exact (hP2 3 _ rfl).trans (congrArg some (sQ_cell (fun j hj => by rcases (show j = 0 ∨ j = 1 ∨ j = 2 ∨ j = 3 ∨ j = 4 ∨ j = 5 ∨ j = 6 ∨ j = 7 by omega) with rfl | rfl | rfl | rfl | rfl | rfl | rfl | rfl <;> rfl)))
  | 4, _ => exact (hP2 4 _ rfl).trans (congrArg some (sQ_cell (fun j hj => by rcases (show j = 0 ∨ j = 1 ∨ j = 2 ∨ j = 3 ∨ j = 4 ∨ j = 5 ∨ j = 6 ∨ j = 7 by omega) with rfl | rfl | rfl | rfl | rfl | rfl | rfl | rfl <;> rfl)))
  | 5, _ => exact hP2 5 _ rfl
  | 6, _ => exact hP2 6 _ rfl
  | 7, _ => exact hP2 7 _ rfl
  | 8, _ => exact hP2 8 _ rfl
  | 9, _ => exact hP2 9 _ rfl
  | 10, _ => exact hP2 10 _ rfl
  | 11, _ => exact hP2 11 _ rfl
  | 12, _ => exact hP2 12 _ rfl
  | 13, _ => exact hP2 13 _ rfl
  | 14, _ => exact hP2 14 _ rfl
  | 15, _ => exact hP2 15 _ rfl
  | 16, _ => exact hP2 16 _ rfl
  | 17, _ => exact hP2 17 _ rfl
  | 18, _ => exact hP2 18 _ rfl
  | 19, _ => exact hP2 19 _ rfl
  | 20, _ => exact hP2 20 _ rfl
  | 21, _ => exact (hP2 21 _ rfl).trans (congrArg some (sQ_cell (fun j hj => by rcases (show j = 0 ∨ j = 1 ∨ j = 2 ∨ j = 3 ∨ j = 4 ∨ j = 5 by omega) with rfl | rfl | rfl | rfl | rfl | rfl <;> rfl)))
  | 22, _ => exact hP2 22 _ rfl
  | 23, _ => exact hP2 23 _ rfl
  | 24, _ => exact hP2 24 _ rfl
  | 25, _ => exact hP2 25 _ rfl
  | 26, _ => exact hP2 26 _ rfl
  | 27, _ => exact hP2 27 _ rfl
  | 28, _ => exact hP2 28 _ rfl
  | 29, _ => exact hP2 29 _ rfl
  | 30, _ => exact hP2 30 _ rfl
  | 31, _ => exact hP2 31 _ rfl
  | 32, _ => exact hP2 32 _ rfl
  | 33, _ => exact hP2 33 _ rfl
