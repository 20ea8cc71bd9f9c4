/-! Calls with other cells beside the object's: they stay. -/
section SW
variable {p : Program} {l : Launch} {e : Env} {R : Room} {s : State} {m : MethodId} {args : Array Value} {below : List Frame} {meth : Method} {c : Code} {H : Heap} {locs : List Loc} {cells slots : Nat} {Q : State → Prop} {pc : Nat} {ls : Array Slot} {rest st0 : List Value} {D : va_G} {a : Nat → Nat} {cs : Nat → ClassId} {σ σ' : sS} {A : Nat → Prop} {H0 : Heap} {av : Array Value} {w : va_W}
/-- cells that are none of the object's -/
def sF (a : Nat → Nat) (w : va_W) : Prop := ∀ (k : Nat) (q : Nat × va_E), w[k]? = some q → ∀ i, i < 34 → a i ≠ q.1
theorem sF_kept {H1 : Heap} (hf : sF a w) (hP : va_P D vwCl w H) (hk : ∀ q : Nat, q < H.size → ¬ sA a H.size q → H1[q]? = H[q]?) : va_P D vwCl w H1 := hP.kept (fun k q hq => hk q.1 (hP k q hq).lt (by
  rintro (⟨i, hi, e⟩ | h)
  · exact hf k q hq i hi e.symm
  · exact absurd (hP k q hq).lt (Nat.not_lt.mpr h)))
theorem sc_iw {v : Int32} (hr : va_Run p l e R s m args below meth c H locs cells slots 0 0 (F0 m pc ls st0) rest (va_Qi (fun r (_ : Unit) => r = v) (fun _ t => va_P D vwCl (sW a cs σ') t.heap) (sA a H.size) av) (sA a H.size)) (hw : sH D a cs A H0 σ H locs) (hA : ∀ q, H0.size ≤ q → A q) (hf : sF a w) (hP : va_P D vwCl w H)
    (kk : ∀ (H1 : Heap) (locs1 : List Loc), sH D a cs A H0 σ' H1 locs1 → va_P D vwCl w H1 → W p l e R s m args below meth c H1 locs1 cells slots Q (F0 m (pc + 3) ls (.int v :: rest))) : W p l e R s m args below meth c H locs cells slots Q (F0 m pc ls st0) :=
  va_calli hr hw.2.2 (fun q _ h => sA_sub hw hA h) (fun q h => sA_sub hw hA h) (fun r u t H1 locs1 ht _ hr hB _ hk hS => by subst hr; rw [ht] at hB; exact kk H1 locs1 (sH_call hw hB hS) (sF_kept hf hP hk))
theorem sc_lw {v : Int64} (hr : va_Run p l e R s m args below meth c H locs cells slots 0 0 (F0 m pc ls st0) rest (va_Ql (fun r (_ : Unit) => r = v) (fun _ t => va_P D vwCl (sW a cs σ') t.heap) (sA a H.size) av) (sA a H.size)) (hw : sH D a cs A H0 σ H locs) (hA : ∀ q, H0.size ≤ q → A q) (hf : sF a w) (hP : va_P D vwCl w H)
    (kk : ∀ (H1 : Heap) (locs1 : List Loc), sH D a cs A H0 σ' H1 locs1 → va_P D vwCl w H1 → W p l e R s m args below meth c H1 locs1 cells slots Q (F0 m (pc + 3) ls (.long v :: rest))) : W p l e R s m args below meth c H locs cells slots Q (F0 m pc ls st0) :=
  va_calll hr hw.2.2 (fun q _ h => sA_sub hw hA h) (fun q h => sA_sub hw hA h) (fun r u t H1 locs1 ht _ hr hB _ hk hS => by subst hr; rw [ht] at hB; exact kk H1 locs1 (sH_call hw hB hS) (sF_kept hf hP hk))
theorem bc_iw {post : Int32 → Prop} (hr : va_Run p l e R s m args below meth c H locs cells slots 0 0 (F0 m pc ls st0) rest (va_Qi (fun r (_ : Unit) => post r) (fun _ _ => True) (fun q => H.size ≤ q) av) (fun q => H.size ≤ q)) (hw : sH D a cs A H0 σ H locs) (hA : ∀ q, H0.size ≤ q → A q) (hP : va_P D vwCl w H)
    (kk : ∀ (r : Int32) (H1 : Heap) (locs1 : List Loc), post r → sH D a cs A H0 σ H1 locs1 → va_P D vwCl w H1 → W p l e R s m args below meth c H1 locs1 cells slots Q (F0 m (pc + 3) ls (.int r :: rest))) : W p l e R s m args below meth c H locs cells slots Q (F0 m pc ls st0) :=
  va_calli hr hw.2.2 (fun q _ h => hA q (Nat.le_trans hw.2.2.1 h)) (fun q h => hA q (Nat.le_trans hw.2.2.1 h)) (fun r u t H1 locs1 ht _ hr _ _ hk hS => kk r H1 locs1 hr ⟨hw.1.kept (fun k q hq => hk q.1 (hw.1 k q hq).lt (Nat.not_le.mpr (hw.1 k q hq).lt)), hw.2.1, hS⟩ (hP.kept (fun k q hq => hk q.1 (hP k q hq).lt (Nat.not_le.mpr (hP k q hq).lt))))
end SW
