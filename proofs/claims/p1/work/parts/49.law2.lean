section LK
variable {p : Program} {l : Launch} {e : Env} {R : Room} {s : State} {m : MethodId} {args : Array Value} {below : List Frame} {meth : Method} {c : Code} {H : Heap} {locs : List Loc} {cells slots : Nat} {Q : State → Prop}
variable {pc : Nat} {ls : Array Slot} {rest : List Value} {D : va_G} {a a' : Nat → Nat} {cs cs' : Nat → ClassId} {o : Nat} {cJ : ClassId} {fl : Nat → Int64} {σ' : sS}
theorem lW_next (hw : lW D a cs a' cs' o cJ fl s H locs) {H1 : Heap} {locs1 : List Loc} (hk : ∀ q : Nat, q < H.size → ¬ sA a H.size q → H1[q]? = H[q]?) (hS : va_S (lA s) s.heap H1 locs1) : mH D a' cs' 12 (lA s) s.heap m_row0 [] H1 locs1 := by
  refine ⟨?_, ?_, hS⟩
  · rw [List.append_nil]
    exact (mP_pre hw.1).kept (fun k q hq => by
      obtain ⟨hi, rfl⟩ := mW_inv hq
      exact hk _ (lW_out hw hi).1 (fun h => (lW_out hw hi).2 (Or.inl h)))
  · rw [List.append_nil]
    exact mD_pre hw.2.1
theorem lk_l {st0 : List Value} {av : Array Value} {v : Int64} (hr : va_Run p l e R s m args below meth c H locs cells slots 0 0 (F0 m pc ls st0) rest (va_Ql (fun r (_ : Unit) => r = v) (fun _ t => va_P D vwCl (sW a cs σ') t.heap) (sA a H.size) av) (sA a H.size)) (hw : lW D a cs a' cs' o cJ fl s H locs)
    (kk : ∀ (H1 : Heap) (locs1 : List Loc), mH D a' cs' 12 (lA s) s.heap m_row0 [] H1 locs1 → W p l e R s m args below meth c H1 locs1 cells slots Q (F0 m (pc + 3) ls (.long v :: rest))) : W p l e R s m args below meth c H locs cells slots Q (F0 m pc ls st0) :=
  va_calll hr hw.2.2 (fun q _ h => lW_free hw (Or.inl h)) (fun q h => lW_free hw (Or.inl h)) (fun r u t H1 locs1 ht _ hr hB _ hk hS => by subst hr; exact kk H1 locs1 (lW_next hw hk hS))
theorem lk_d {st0 : List Value} {av : Array Value} {v : UInt64} (hr : va_Run p l e R s m args below meth c H locs cells slots 0 0 (F0 m pc ls st0) rest (va_Qd (fun r (_ : Unit) => r = v) (fun _ t => va_P D vwCl (sW a cs σ') t.heap) (sA a H.size) av) (sA a H.size)) (hw : lW D a cs a' cs' o cJ fl s H locs)
    (kk : ∀ (H1 : Heap) (locs1 : List Loc), mH D a' cs' 12 (lA s) s.heap m_row0 [] H1 locs1 → W p l e R s m args below meth c H1 locs1 cells slots Q (F0 m (pc + 3) ls (.double v :: rest))) : W p l e R s m args below meth c H locs cells slots Q (F0 m pc ls st0) :=
  va_calld hr hw.2.2 (fun q _ h => lW_free hw (Or.inl h)) (fun q h => lW_free hw (Or.inl h)) (fun r u t H1 locs1 ht _ hr hB _ hk hS => by subst hr; exact kk H1 locs1 (lW_next hw hk hS))
theorem mc_d {N : Nat} {ρ ρ' : sS} {xs : va_W} {A : Nat → Prop} {H0 : Heap} {st0 : List Value} {av : Array Value} {mc ms : Nat} {v : UInt64} (hr : va_Run p l e R s m args below meth c H locs cells slots mc ms (F0 m pc ls st0) rest (va_Qd (fun r (_ : Unit) => r = v) (fun _ t => va_P D vwCl (mW N a cs ρ') t.heap) (mA a N H.size) av) (mA a N H.size)) (hw : mH D a cs N A H0 ρ xs H locs) (hA : ∀ q, H0.size ≤ q → A q)
    (kk : ∀ (H1 : Heap) (locs1 : List Loc), mH D a cs N A H0 ρ' xs H1 locs1 → W p l e R s m args below meth c H1 locs1 (cells + mc) (slots + ms) Q (F0 m (pc + 3) ls (.double v :: rest))) : W p l e R s m args below meth c H locs cells slots Q (F0 m pc ls st0) :=
  va_calld hr hw.2.2 (fun q _ h => mA_sub hw hA h) (fun q h => mA_sub hw hA h) (fun r u t H1 locs1 ht _ hr hB _ hk hS => by subst hr; rw [ht] at hB; exact kk H1 locs1 (mH_call hw hB hk hS))
end LK
set_option maxHeartbeats 4000000 in
set_option maxRecDepth 100000 in
theorem ll_digest {p : Program} {e : Env} {s : State} {m : MethodId} {below : List Frame} {meth : Method} {c : Code} {l : Launch} (hst : l.stackTraces = false) {b : Nat} {xs : Nat → Int32} (C0 : lw_At p s m meth c b 5 xs) {D : va_G} {a : Nat → Nat} {cs : Nat → ClassId} {a' : Nat → Nat} {cs' : Nat → ClassId} {o : Nat} {cJ : ClassId} {fl : Nat → Int64} (hm : lM D cs cs' cJ s) {H : Heap} {locs : List Loc} (hw : lW D a cs a' cs' o cJ fl s H locs) {ls : Array Slot} (hl : lv_has ls 9 [(0, .ref b), (1, .ref (a 0)), (2, .ref (a' 10)), (3, .ref o), (4, .int 0)]) : W p l e room_1 s m #[Value.ref b] below meth c H locs 47 402 (lw_Z below #[Value.ref b] s) (F0 m 1779 ls []) := by
  obtain ⟨hx, hb, hr, hml, hown, hts0, hX, hbl, hlocks, hgv⟩ := id C0
  have hts : ∀ w ∈ wsL_law, w.before #[Value.ref b] s = true := fun w h => hts0 w (wsL_law_in w h)
  have hown : s.vm.findClass RL = some m.cls := hown
  have hA : ∀ q, s.heap.size ≤ q → lA s q := fun _ h => h
  have hbA : ¬ lA s b := Nat.not_le.mpr hbl
  refine lv_aload_n hx hb dL_law_1779 rfl (lv_at hl 1 rfl) ?_
  refine lk_l (sr_V (i := 0) (As := []) (rest := []) ⟨hx, hb, hml, hown, hts⟩ (zX3_digest l D a cs f_new 0 (by decide) rfl sZ_new _) (cwV 0 hts gL_law_X3_digest rfl rfl rfl (by decide +kernel) ⟨Nat.le_of_ble_eq_true rfl, Nat.le_of_ble_eq_true rfl⟩) hm.1 hm.2.2.2.1 (lW_s hw) (by omega) sE_o kcX3 rfl hl.1 (Nat.le_of_ble_eq_true rfl) dL_law_1780 ⟨Nat.le_of_ble_eq_true rfl, Nat.le_of_ble_eq_true rfl⟩) hw (fun H locs hw => ?_)
  refine lv_aload_n hx hb dL_law_1783 rfl (lv_at hl 2 rfl) ?_
  refine mc_l (mr_V (i := 10) (As := []) (rest := [.long (f_X3_digest f_new 0)]) ⟨hx, hb, hml, hown, hts⟩ (zX6_digest l D a' cs' 12 (by omega) m_row0 fr0 _) (cwV 0 hts gL_law_X6_digest rfl rfl rfl (by decide +kernel) ⟨Nat.le_of_ble_eq_true rfl, Nat.le_of_ble_eq_true rfl⟩) hm.2.1 hm.2.2.2.2.1 hw (by omega) mE_o kcX6 rfl hl.1 (Nat.le_of_ble_eq_true rfl) dL_law_1784 ⟨Nat.le_of_ble_eq_true rfl, Nat.le_of_ble_eq_true rfl⟩) hw hA (fun H locs hw => ?_)
  refine W.lcmp hx hb dL_law_1787 ?_
  refine lv_if_eq (tgt := 1793) hx hb dL_law_1788 (by decide) (fun _ => ?_) (fun c1 => absurd ((lg_cmp_eq _ _).mpr (q_digest cF_new (mFr_thr fr0))) c1)
  refine W.widen (k := 600002) (n := 7302232) (Nat.le_of_ble_eq_true rfl) (Nat.le_of_ble_eq_true rfl) ?_
  exact l_fin C0 hw.2.2 (lv_sub hl [0, 4] rfl)
set_option maxHeartbeats 4000000 in
set_option maxRecDepth 100000 in
theorem ll_mean {p : Program} {e : Env} {s : State} {m : MethodId} {below : List Frame} {meth : Method} {c : Code} {l : Launch} (hst : l.stackTraces = false) {b : Nat} {xs : Nat → Int32} (C0 : lw_At p s m meth c b 5 xs) {D : va_G} {a : Nat → Nat} {cs : Nat → ClassId} {a' : Nat → Nat} {cs' : Nat → ClassId} {o : Nat} {cJ : ClassId} {fl : Nat → Int64} (hm : lM D cs cs' cJ s) {H : Heap} {locs : List Loc} (hw : lW D a cs a' cs' o cJ fl s H locs) {ls : Array Slot} (hl : lv_has ls 9 [(0, .ref b), (1, .ref (a 0)), (2, .ref (a' 10)), (3, .ref o), (4, .int 0)]) : W p l e room_1 s m #[Value.ref b] below meth c H locs 47 402 (lw_Z below #[Value.ref b] s) (F0 m 1398 ls []) := by
  obtain ⟨hx, hb, hr, hml, hown, hts0, hX, hbl, hlocks, hgv⟩ := id C0
  have hts : ∀ w ∈ wsL_law, w.before #[Value.ref b] s = true := fun w h => hts0 w (wsL_law_in w h)
  have hown : s.vm.findClass RL = some m.cls := hown
  have hA : ∀ q, s.heap.size ≤ q → lA s q := fun _ h => h
  have hbA : ¬ lA s b := Nat.not_le.mpr hbl
  refine lv_aload_n hx hb dL_law_1398 rfl (lv_at hl 1 rfl) ?_
  refine lk_d (sr_V (i := 0) (As := []) (rest := []) ⟨hx, hb, hml, hown, hts⟩ (zX3_meanStrength l D a cs f_new (fun j hj => by rw [fn_k (by decide)]; decide) _) (cwV 0 hts gL_law_X3_meanStrength rfl rfl rfl (by decide +kernel) ⟨Nat.le_of_ble_eq_true rfl, Nat.le_of_ble_eq_true rfl⟩) hm.1 hm.2.2.2.1 (lW_s hw) (by omega) sE_o kcX3 rfl hl.1 (Nat.le_of_ble_eq_true rfl) dL_law_1399 ⟨Nat.le_of_ble_eq_true rfl, Nat.le_of_ble_eq_true rfl⟩) hw (fun H locs hw => ?_)
  refine lv_dstore (lv' := [(5, .double FP.dconst0), (0, .ref b), (1, .ref (a 0)), (2, .ref (a' 10)), (3, .ref o), (4, .int 0)]) hx hb dL_law_1402 hl (by decide) rfl (fun ls hl => ?_)
  refine lv_aload_n hx hb dL_law_1404 rfl (lv_at hl 3 rfl) ?_
  refine mc_d (mr_V (i := 10) (As := []) (rest := []) ⟨hx, hb, hml, hown, hts⟩ (zX6_meanStrength l D a' cs' 12 (by omega) m_row0 fr0 _) (cwV 0 hts gL_law_X6_meanStrength rfl rfl rfl (by decide +kernel) ⟨Nat.le_of_ble_eq_true rfl, Nat.le_of_ble_eq_true rfl⟩) hm.2.1 hm.2.2.2.2.1 hw (by omega) mE_o kcX6 rfl hl.1 (Nat.le_of_ble_eq_true rfl) dL_law_1405 ⟨Nat.le_of_ble_eq_true rfl, Nat.le_of_ble_eq_true rfl⟩) hw hA (fun H locs hw => ?_)
  refine lv_dstore (lv' := [(7, .double FP.dconst0), (5, .double FP.dconst0), (0, .ref b), (1, .ref (a 0)), (2, .ref (a' 10)), (3, .ref o), (4, .int 0)]) hx hb dL_law_1408 hl (by decide) rfl (fun ls hl => ?_)
  refine lv_dload hx hb dL_law_1410 (lv_at hl 1 rfl) ?_
  refine lv_dload hx hb dL_law_1412 (lv_at hl 0 rfl) ?_
  refine lv_dcmp hx hb dL_law_1414 ?_
  refine lv_if_eq (tgt := 1436) hx hb dL_law_1415 (by decide) (fun _ => ?_) (fun c1 => absurd (by decide +kernel) c1)
  refine lv_goto (tgt := 1793) hx hb dL_law_1436 (by decide) ?_
  refine W.widen (k := 600002) (n := 7302232) (Nat.le_of_ble_eq_true rfl) (Nat.le_of_ble_eq_true rfl) ?_
  exact l_fin C0 hw.2.2 (lv_sub hl [2, 6] rfl)
set_option maxHeartbeats 4000000 in
set_option maxRecDepth 100000 in
theorem ll_family {p : Program} {e : Env} {s : State} {m : MethodId} {below : List Frame} {meth : Method} {c : Code} {l : Launch} (hst : l.stackTraces = false) {b : Nat} {xs : Nat → Int32} (C0 : lw_At p s m meth c b 5 xs) {D : va_G} {a : Nat → Nat} {cs : Nat → ClassId} {a' : Nat → Nat} {cs' : Nat → ClassId} {o : Nat} {cJ : ClassId} {fl : Nat → Int64} (hm : lM D cs cs' cJ s) {H : Heap} {locs : List Loc} (hw : lW D a cs a' cs' o cJ fl s H locs) {ls : Array Slot} (hl : lv_has ls 9 [(0, .ref b), (1, .ref (a 0)), (2, .ref (a' 10)), (3, .ref o), (4, .int 0)]) (hE : mEd (a' 12) (lA s) s s.heap) (hAd : mAd s) : W p l e room_1 s m #[Value.ref b] below meth c H locs 47 402 (lw_Z below #[Value.ref b] s) (F0 m 682 ls []) := by
  obtain ⟨hx, hb, hr, hml, hown, hts0, hX, hbl, hlocks, hgv⟩ := id C0
  have hts : ∀ w ∈ wsL_law, w.before #[Value.ref b] s = true := fun w h => hts0 w (wsL_law_in w h)
  have hown : s.vm.findClass RL = some m.cls := hown
  have hA : ∀ q, s.heap.size ≤ q → lA s q := fun _ h => h
  have hbA : ¬ lA s b := Nat.not_le.mpr hbl
  refine lv_aload_n hx hb dL_law_682 rfl (lv_at hl 1 rfl) ?_
  refine lv_aload_n hx hb dL_law_683 rfl (lv_at hl 3 rfl) ?_
  refine lh_n (As := [.ref (a 0), .ref o]) ⟨hx, hb, hml, hown, hts⟩ (zL_family_n l hst D a cs f_new o cJ fl (lW_so hw) (by decide) _) (vx_cwSW 2 hts gL_law_L_family rfl rfl rfl (by decide +kernel) ⟨Nat.le_of_ble_eq_true rfl, Nat.le_of_ble_eq_true rfl⟩) hm hw rfl hl.1 dL_law_684 ⟨Nat.le_of_ble_eq_true rfl, Nat.le_of_ble_eq_true rfl⟩ (fun u H locs hu hw => ?_)
  refine lv_istore (lv' := [(5, .int 0), (0, .ref b), (1, .ref (a 0)), (2, .ref (a' 10)), (3, .ref o), (4, .int 0)]) hx hb dL_law_687 hl (by decide) rfl (fun ls hl => ?_)
  refine lv_aload_n hx hb dL_law_689 rfl (lv_at hl 3 rfl) ?_
  have hoA : lA s o := hw.2.1.2 (12 + 0) (o, .inl (cJ, 1, .inr (.inl u))) (by rw [mX_x]; rfl)
  have hPo : va_P D vwCl (hO o cJ u) H := mP_suf hw.1
  have hno : ¬ mA a' 12 H.size o := by
    rintro (⟨j, hj, e⟩ | h)
    · have := hw.2.1.1 j (12 + 0) (a' j, mE a' cs' j (m_row0 j)) (o, .inl (cJ, 1, .inr (.inl u))) (mX_get hj) (by rw [mX_x]; rfl) e.symm
      omega
    · exact absurd (hPo 0 _ rfl).lt (Nat.not_lt.mpr h)
  refine va_calli (va_runV (As := []) (rest := []) ⟨hx, hb, hml, hown, hts⟩ (zX6_family l D a' cs' 12 (by omega) m_row0 rfl H.size) (cwV 0 hts gL_law_X6_family rfl rfl rfl (by decide +kernel) ⟨Nat.le_of_ble_eq_true rfl, Nat.le_of_ble_eq_true rfl⟩) ⟨fun v U g mk q => by obtain ⟨q0, qB, qE, qA⟩ := q; exact ⟨q0, (mB_blind (av := [.ref (a' 10)]) v U g mk ⟨q0, qB⟩).2, mEd.moved (u := U) (U := U.calling g mk v) (Vm.Alike.refl U.vm) qE, mAd.moved (u := U) (U := U.calling g mk v) (Vm.Alike.refl U.vm) qA⟩, va_recv hm.2.1 hw.1 (q0 := 10) kcX6 (by rw [mX_get (by omega), mE_o]), fun U hU hW => ⟨rfl, mB_of hm.2.1 hm.2.2.2.2.1 hw hU hW, by rw [hU]; exact mEd.moved hW.alike ((hE.kept (fun x h1 h2 => hw.2.2.2.1 x h1 h2)).narrow (fun q h => mA_sub hw hA h)), mAd.moved hW.alike hAd⟩⟩ rfl rfl hl.1 rfl (lv_room (Nat.le_of_ble_eq_true rfl)) dL_law_690 ⟨Nat.le_of_ble_eq_true rfl, Nat.le_of_ble_eq_true rfl⟩) hw.2.2 (fun q _ h => mA_sub hw hA h) (fun q h => mA_sub hw hA h) (fun v6 w t H1 locs1 ht hvm ev6 hB hz hk hS => ?_)
  rw [ht] at hB
  have hPo : va_P D vwCl (hO o cJ u) H1 := hPo.kept (fun k q hq => by
    have hk0 : k < 1 := (List.getElem?_eq_some_iff.mp hq).1
    rw [show k = 0 by omega] at hq
    cases hq
    exact hk o (hPo 0 _ rfl).lt hno)
  generalize H1 = H at hB hPo hS
  refine lv_istore (lv' := [(6, .int v6), (5, .int 0), (0, .ref b), (1, .ref (a 0)), (2, .ref (a' 10)), (3, .ref o), (4, .int 0)]) hx hb dL_law_693 hl (by decide) rfl (fun ls hl => ?_)
  refine lv_aload_n hx hb dL_law_695 rfl (lv_at hl 4 rfl) ?_
  refine va_calli (va_runV (As := []) (rest := []) ⟨hx, hb, hml, hown, hts⟩ (zX6_thr1 l D (a' 10) (a' 0) (a' 11) H.size (m_thr m_row0 0 10)) (cwV 0 hts gL_law_X6_thrown rfl rfl rfl (by decide +kernel) ⟨Nat.le_of_ble_eq_true rfl, Nat.le_of_ble_eq_true rfl⟩) ⟨fun v U g mk q => by obtain ⟨q0, q1, qP, qK⟩ := q; exact ⟨q0, q1, qP, va_K.moved (u := U) (U := U.calling g mk v) (Vm.Alike.refl U.vm) qK⟩, va_recv hm.2.1 hB (q0 := 0) kcX6 rfl, fun U hU hW => ⟨rfl, by rw [hU], by rw [hU]; exact hB, va_K.moved hW.alike (hm.2.1.sub (tys' := []) [] rfl)⟩⟩ rfl rfl hl.1 rfl (lv_room (Nat.le_of_ble_eq_true rfl)) dL_law_696 ⟨Nat.le_of_ble_eq_true rfl, Nat.le_of_ble_eq_true rfl⟩) hS (fun q _ h => Nat.le_trans hS.1 h) (fun q h => Nat.le_trans hS.1 h) (fun v7 w t H1 locs1 ht hvm ev7 _ hz hk hS => ?_)
  have hPo : va_P D vwCl (hO o cJ u) H1 := hPo.kept (fun k q hq => by
    have hk0 : k < 1 := (List.getElem?_eq_some_iff.mp hq).1
    rw [show k = 0 by omega] at hq
    cases hq
    exact hk o (hPo 0 _ rfl).lt (Nat.not_le.mpr (hPo 0 _ rfl).lt))
  generalize H1 = H at hPo hS
  refine w_top0 (v := 0) (ev7.trans rfl) ?_
  refine lv_iload hx hb dL_law_699 (lv_at hl 1 rfl) ?_
  refine lv_icmp_eq (tgt := 706) hx hb dL_law_701 (by decide) (fun _ => ?_) (fun c1 => absurd rfl c1)
  refine lv_iload hx hb dL_law_706 (lv_at hl 1 rfl) ?_
  refine lv_if_ne (tgt := 723) hx hb dL_law_708 (by decide) (fun c1 => absurd rfl c1) (fun _ => ?_)
  refine lv_aload_n hx hb dL_law_711 rfl (lv_at hl 5 rfl) ?_
  refine lv_iconst (v := 0) hx hb dL_law_712 (by decide) ?_
  refine va_lald hx hb hm.2.2.1 hPo 0 0 rfl rfl (vp_in_nI (n := 0) (by decide) (by decide)) dL_law_713 ?_
  refine lv_iload hx hb dL_law_714 (lv_at hl 0 rfl) ?_
  refine lv_i2l hx hb dL_law_716 rfl ?_
  refine W.lcmp hx hb dL_law_717 ?_
  refine lv_if_eq (tgt := 723) hx hb dL_law_718 (by decide) (fun _ => ?_) (fun c1 => absurd ((lg_cmp_eq _ _).mpr (hu.trans (congrArg Int32.toInt64 (((rfl : f_X3_familyV f_new = 0)).trans ev6.symm)))) c1)
  refine lv_goto (tgt := 1793) hx hb dL_law_723 (by decide) ?_
  refine W.widen (k := 600002) (n := 7302232) (Nat.le_of_ble_eq_true rfl) (Nat.le_of_ble_eq_true rfl) ?_
  exact l_fin C0 hS (lv_sub hl [2, 6] rfl)
