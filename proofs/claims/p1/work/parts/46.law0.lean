/-! The law's calls: what is at hand at each, and behind it. -/
theorem hPost {l : Launch} {y : MethodName} {ws : List Cond} {rm : Room} {Pc : Array Value → State → Prop} {Qc Qc' : Array Value → State → Outcome → State → Prop} {mc ms : Nat} {free : Addr → Prop} (h : Met l y ws rm Pc Qc mc ms free) (hq : ∀ (av : Array Value) (st : State) (o : Outcome) (t : State), Qc av st o t → Qc' av st o t) : Met l y ws rm Pc Qc' mc ms free := by
  intro p e ha hc hk s m args below h1 h2 h3 h4
  obtain ⟨n, o, a1, a2, a3, q, fr⟩ := h p e ha hc hk s m args below h1 h2 h3 h4
  exact ⟨n, o, a1, a2, a3, hq _ _ _ _ q, fr⟩
abbrev lA (s : State) : Nat → Prop := fun q => s.heap.size ≤ q
/-- what the start says of the machine: kinds, links, the exceptions' places -/
def lM (D : va_G) (cs cs' : Nat → ClassId) (cJ : ClassId) (s : State) : Prop := va_K D vwCl (sT cs) s ∧ va_K D vwCl (mT cs') s ∧ va_K D vwCl [(cJ, .long)] s ∧ sN s ∧ mN s ∧ hNc s ∧ sXf (lA s) s s.heap
/-- both new objects, the place of the answer -/
abbrev lW (D : va_G) (a : Nat → Nat) (cs : Nat → ClassId) (a' : Nat → Nat) (cs' : Nat → ClassId) (o : Nat) (cJ : ClassId) (fl : Nat → Int64) (s : State) (H : Heap) (locs : List Loc) : Prop := mH D a' cs' 12 (lA s) s.heap m_row0 (hO o cJ fl ++ sW a cs f_new) H locs
section LL
variable {p : Program} {l : Launch} {e : Env} {R : Room} {s : State} {m : MethodId} {args : Array Value} {below : List Frame} {meth : Method} {c : Code} {H : Heap} {locs : List Loc} {cells slots : Nat} {Q : State → Prop}
variable {cc : ByteArray} {pc : Nat} {ls : Array Slot} {rest : List Value} {D : va_G} {a a' : Nat → Nat} {cs cs' : Nat → ClassId} {o : Nat} {cJ : ClassId} {fl : Nat → Int64}
theorem lW_s (hw : lW D a cs a' cs' o cJ fl s H locs) : sH D a cs (lA s) s.heap f_new H locs := by
  have hP := mP_suf hw.1
  have hg : ∀ (k : Nat) (q : Nat × va_E), (sW a cs f_new)[k]? = some q → (mW 12 a' cs' m_row0 ++ (hO o cJ fl ++ sW a cs f_new))[12 + (k + 1)]? = some q := fun k q hk => by
    rw [mX_x]
    exact hk
  refine ⟨fun k q hk => hP (k + 1) q hk, ⟨fun i j x y hx hy hxy => ?_, fun k q hk => hw.2.1.2 _ q (hg k q hk)⟩, hw.2.2⟩
  have := hw.2.1.1 _ _ x y (hg i x hx) (hg j y hy) hxy
  omega
theorem lW_o (hw : lW D a cs a' cs' o cJ fl s H locs) : va_P D vwCl (hO o cJ fl) H := fun k q hk => mP_suf hw.1 k q (by
  have hi : k < 1 := (List.getElem?_eq_some_iff.mp hk).1
  rw [show k = 0 by omega] at hk ⊢
  exact hk)
theorem lW_oA (hw : lW D a cs a' cs' o cJ fl s H locs) : lA s o := hw.2.1.2 (12 + 0) (o, .inl (cJ, 1, .inr (.inl fl))) (by rw [mX_x]; rfl)
theorem lW_so (hw : lW D a cs a' cs' o cJ fl s H locs) : ∀ i, i < 34 → a i ≠ o := fun i hi e => by
  have := hw.2.1.1 (12 + (i + 1)) (12 + 0) (a i, sE a cs i (f_new i)) (o, .inl (cJ, 1, .inr (.inl fl))) (by rw [mX_x]; exact sW_get hi) (by rw [mX_x]; rfl) e
  omega
theorem lW_free (hw : lW D a cs a' cs' o cJ fl s H locs) {q : Nat} (h : hAo a o H.size q) : lA s q := by
  rcases h with h | h
  · exact sA_sub (lW_s hw) (fun _ h => h) h
  · rw [h]; exact lW_oA hw
theorem lW_out (hw : lW D a cs a' cs' o cJ fl s H locs) {j : Nat} (hj : j < 12) : a' j < H.size ∧ ¬ hAo a o H.size (a' j) := by
  have hl := (mP_pre hw.1 j _ (mW_get hj)).lt
  refine ⟨hl, ?_⟩
  rintro ((⟨i, hi, e⟩ | h) | h)
  · have := hw.2.1.1 j (12 + (i + 1)) (a' j, mE a' cs' j (m_row0 j)) (a i, sE a cs i (f_new i)) (mX_get hj) (by rw [mX_x]; exact sW_get hi) e
    omega
  · exact absurd hl (Nat.not_lt.mpr h)
  · have := hw.2.1.1 j (12 + 0) (a' j, mE a' cs' j (m_row0 j)) (o, .inl (cJ, 1, .inr (.inl fl))) (mX_get hj) (by rw [mX_x]; rfl) h
    omega
theorem lW_pre (hm : lM D cs cs' cJ s) (hw : lW D a cs a' cs' o cJ fl s H locs) {U : State} (hU : U.heap = H) (hW : s.WarmedH U.vm) : hB D a cs f_new o cJ fl H.size U := by
  obtain ⟨hK, -, hKJ, hN, -, hC, hX⟩ := hm
  refine ⟨sB_of hK hN (lW_s hw) hU hW, ?_, by rw [hU]; exact lW_o hw, va_K.moved hW.alike hKJ, hNc.moved hW.alike hC⟩
  rw [hU]
  exact sXf.warm hW ((hX.kept (fun x h1 h2 => hw.2.2.2.1 x h1 h2)).narrow (fun q h => lW_free hw h))
/-- a helper's call that set an exception's number down -/
theorem lh_x {own : String} {y : MethodName} {bytes : ByteArray} {maxL nL n index : Nat} {ret : Option FieldType} {ws : List Cond} {rm : Room} {Ts : List Cond} {As : List Value} {hh : List (Nat × Nat × Nat × Nat)} {v : Int32}
    (S : CallFix p m c cc nL s args Ts own) (hM : Met l y ws rm (va_Pc As (hB D a cs f_new o cJ fl H.size)) (va_Qi (fun r (_ : Unit) => r = v) (fun _ _ => True) (hAo a o H.size)) 1 6 (hAo a o H.size)) (cw : vx_CSW R s args own index y bytes maxL ret hh ws rm 1 6 n) (hm : lM D cs cs' cJ s) (hw : lW D a cs a' cs' o cJ fl s H locs)
    (hn : As.length = n) (hsize : ls.size = nL) (hdg : decode cc pc = .ok (.invokestatic index, 3)) (hf : cells + 1 ≤ R.cells ∧ slots + 6 ≤ R.slots)
    (kk : ∀ (H1 : Heap) (locs1 : List Loc), mH D a' cs' 12 (lA s) s.heap m_row0 [] H1 locs1 → W p l e R s m args below meth c H1 locs1 (cells + 1) (slots + 6) Q (F0 m (pc + 3) ls [.int v])) : W p l e R s m args below meth c H locs cells slots Q (F0 m pc ls (As.reverse ++ [])) :=
  va_calli (vx_runSW S hM cw ⟨hB_blind, fun U hU hW => ⟨rfl, lW_pre hm hw hU hW⟩⟩ rfl hn hsize rfl (lv_room (Nat.le_of_ble_eq_true rfl)) hdg hf) hw.2.2 (fun q _ h => lW_free hw h) (fun q h => lW_free hw h) (fun r u t H1 locs1 ht _ hr hB _ hk hS => by
    subst hr
    refine kk H1 locs1 ⟨?_, ?_, hS⟩
    · rw [List.append_nil]
      exact (mP_pre hw.1).kept (fun k q hq => by
        obtain ⟨hi, rfl⟩ := mW_inv hq
        exact hk _ (lW_out hw hi).1 (lW_out hw hi).2)
    · rw [List.append_nil]
      exact mD_pre hw.2.1)
/-- a helper's call that set an answer down -/
theorem lh_n {own : String} {y : MethodName} {bytes : ByteArray} {maxL nL n index : Nat} {ret : Option FieldType} {ws : List Cond} {rm : Room} {Ts : List Cond} {As : List Value} {hh : List (Nat × Nat × Nat × Nat)} {v : Int64}
    (S : CallFix p m c cc nL s args Ts own) (hM : Met l y ws rm (va_Pc As (hB D a cs f_new o cJ fl H.size)) (va_Qi (fun r (u : Nat → Int64) => r = 0 ∧ u 0 = v) (fun u t => va_P D vwCl (hO o cJ u) t.heap) (hAo a o H.size)) 1 6 (hAo a o H.size)) (cw : vx_CSW R s args own index y bytes maxL ret hh ws rm 1 6 n) (hm : lM D cs cs' cJ s) (hw : lW D a cs a' cs' o cJ fl s H locs)
    (hn : As.length = n) (hsize : ls.size = nL) (hdg : decode cc pc = .ok (.invokestatic index, 3)) (hf : cells + 1 ≤ R.cells ∧ slots + 6 ≤ R.slots)
    (kk : ∀ (u : Nat → Int64) (H1 : Heap) (locs1 : List Loc), u 0 = v → mH D a' cs' 12 (lA s) s.heap m_row0 (hO o cJ u) H1 locs1 → W p l e R s m args below meth c H1 locs1 (cells + 1) (slots + 6) Q (F0 m (pc + 3) ls [.int 0])) : W p l e R s m args below meth c H locs cells slots Q (F0 m pc ls (As.reverse ++ [])) :=
  va_calli (vx_runSW S hM cw ⟨hB_blind, fun U hU hW => ⟨rfl, lW_pre hm hw hU hW⟩⟩ rfl hn hsize rfl (lv_room (Nat.le_of_ble_eq_true rfl)) hdg hf) hw.2.2 (fun q _ h => lW_free hw h) (fun q h => lW_free hw h) (fun r u t H1 locs1 ht _ hr hB _ hk hS => by
    obtain ⟨rfl, hu⟩ := hr
    rw [ht] at hB
    refine kk u H1 locs1 hu ⟨?_, ?_, hS⟩
    · exact ((mP_pre hw.1).kept (fun k q hq => by
        obtain ⟨hi, rfl⟩ := mW_inv hq
        exact hk _ (lW_out hw hi).1 (lW_out hw hi).2)).app hB
    · refine va_D_fst (mH_dropx hw).2.1 ?_
      simp [List.map_append])
end LL
