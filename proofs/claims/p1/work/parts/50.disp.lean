/-! Which road a script takes. -/
theorem wt (x y : Int32) : ((x < 0 ∨ ¬ x < 0 ∧ ¬ x ≤ 9 ∨ ¬ x < 0 ∧ x ≤ 9 ∧ y < 0 ∨ ¬ x < 0 ∧ x ≤ 9 ∧ ¬ y < 0 ∧ ¬ y ≤ 9) ∧ g_X6_isIn x 0 9 = 0) ∨ ((x < 0 ∨ ¬ x < 0 ∧ ¬ x ≤ 9 ∨ ¬ x < 0 ∧ x ≤ 9 ∧ y < 0 ∨ ¬ x < 0 ∧ x ≤ 9 ∧ ¬ y < 0 ∧ ¬ y ≤ 9) ∧ g_X6_isIn x 0 9 = 1 ∧ g_X6_isIn y 0 9 = 0) ∨ (¬ x < 0 ∧ x ≤ 9 ∧ ¬ y < 0 ∧ y ≤ 9 ∧ g_X6_isIn x 0 9 = 1 ∧ g_X6_isIn y 0 9 = 1) := by
  rcases rg (x := x) (lo := 0) (hi := 9) with ⟨h1, hx⟩ | ⟨h1, h2, hx⟩ | ⟨h1, h2, hx⟩
  · exact Or.inl ⟨Or.inl h1, hx⟩
  · exact Or.inl ⟨Or.inr (Or.inl ⟨h1, h2⟩), hx⟩
  · rcases rg (x := y) (lo := 0) (hi := 9) with ⟨g1, hy⟩ | ⟨g1, g2, hy⟩ | ⟨g1, g2, hy⟩
    · exact Or.inr (Or.inl ⟨Or.inr (Or.inr (Or.inl ⟨h1, h2, g1⟩)), hx, hy⟩)
    · exact Or.inr (Or.inl ⟨Or.inr (Or.inr (Or.inr ⟨h1, h2, g1, g2⟩)), hx, hy⟩)
    · exact Or.inr (Or.inr ⟨h1, h2, g1, g2, hx, hy⟩)
theorem rg_ne {x : Int32} {lo hi : Nat} (hl : lo ≤ 1000000) (hh : hi ≤ 1000000) (h1 : ¬ x < nI lo) (h2 : x ≤ nI hi) : ∃ n : Nat, x = nI n ∧ lo ≤ n ∧ n ≤ hi := by
  have e1 := nI_toInt (n := lo) (by omega)
  have e2 := nI_toInt (n := hi) (by omega)
  obtain ⟨n, e, a, b⟩ := rg_nat (lo := nI lo) (hi := nI hi) (by omega) h1 h2
  exact ⟨n, e, by omega, by omega⟩
theorem lcs_area {p : Program} {e : Env} {s : State} {m : MethodId} {below : List Frame} {meth : Method} {c : Code} {l : Launch} (hst : l.stackTraces = false) {b : Nat} {xs : Nat → Int32} (C0 : lw_At p s m meth c b 5 xs) {D : va_G} {a : Nat → Nat} {cs : Nat → ClassId} {a' : Nat → Nat} {cs' : Nat → ClassId} {o : Nat} {cJ : ClassId} {fl : Nat → Int64} (hm : lM D cs cs' cJ s) {H : Heap} {locs : List Loc} (hw : lW D a cs a' cs' o cJ fl s H locs) {ls : Array Slot} (hl : lv_has ls 9 [(0, .ref b), (1, .ref (a 0)), (2, .ref (a' 10)), (3, .ref o), (4, .int 0)]) : W p l e room_1 s m #[Value.ref b] below meth c H locs 47 402 (lw_Z below #[Value.ref b] s) (F0 m 148 ls []) := by
  rcases pd_of (xs 1) with ⟨k, hk, hk1⟩ | ⟨hp, hp2⟩
  · rcases rg (x := xs 2) (lo := 1) (hi := 9) with ⟨h1, hy⟩ | ⟨h1, h2, hy⟩ | ⟨h1, h2, hy⟩
    · exact ll_area_2 hst C0 hm hw hl k hk hk1 h1 hy
    · exact ll_area_3 hst C0 hm hw hl k hk hk1 h1 h2 hy
    · exact ll_area_4 hst C0 hm hw hl k hk hk1 h1 h2 hy
  · exact ll_area_1 hst C0 hm hw hl hp hp2
theorem lcs_gate {p : Program} {e : Env} {s : State} {m : MethodId} {below : List Frame} {meth : Method} {c : Code} {l : Launch} (hst : l.stackTraces = false) {b : Nat} {xs : Nat → Int32} (C0 : lw_At p s m meth c b 5 xs) {D : va_G} {a : Nat → Nat} {cs : Nat → ClassId} {a' : Nat → Nat} {cs' : Nat → ClassId} {o : Nat} {cJ : ClassId} {fl : Nat → Int64} (hm : lM D cs cs' cJ s) {H : Heap} {locs : List Loc} (hw : lW D a cs a' cs' o cJ fl s H locs) {ls : Array Slot} (hl : lv_has ls 9 [(0, .ref b), (1, .ref (a 0)), (2, .ref (a' 10)), (3, .ref o), (4, .int 0)]) : W p l e room_1 s m #[Value.ref b] below meth c H locs 47 402 (lw_Z below #[Value.ref b] s) (F0 m 216 ls []) := by
  rcases pd_of (xs 1) with ⟨k, hk, hk1⟩ | ⟨hp, hp2⟩
  · exact ll_gate_2 hst C0 hm hw hl k hk hk1
  · exact ll_gate_1 hst C0 hm hw hl hp hp2
theorem lcs_cover {p : Program} {e : Env} {s : State} {m : MethodId} {below : List Frame} {meth : Method} {c : Code} {l : Launch} (hst : l.stackTraces = false) {b : Nat} {xs : Nat → Int32} (C0 : lw_At p s m meth c b 5 xs) {D : va_G} {a : Nat → Nat} {cs : Nat → ClassId} {a' : Nat → Nat} {cs' : Nat → ClassId} {o : Nat} {cJ : ClassId} {fl : Nat → Int64} (hm : lM D cs cs' cJ s) {H : Heap} {locs : List Loc} (hw : lW D a cs a' cs' o cJ fl s H locs) {ls : Array Slot} (hl : lv_has ls 9 [(0, .ref b), (1, .ref (a 0)), (2, .ref (a' 10)), (3, .ref o), (4, .int 0)]) : W p l e room_1 s m #[Value.ref b] below meth c H locs 47 402 (lw_Z below #[Value.ref b] s) (F0 m 307 ls []) := by
  rcases pn_of (xs 1) with ⟨q, hq, hk1⟩ | ⟨hp, hp2⟩
  · exact ll_cover_2 hst C0 hm hw hl q hq hk1
  · exact ll_cover_1 hst C0 hm hw hl hp hp2
theorem lcs_pass {p : Program} {e : Env} {s : State} {m : MethodId} {below : List Frame} {meth : Method} {c : Code} {l : Launch} (hst : l.stackTraces = false) {b : Nat} {xs : Nat → Int32} (C0 : lw_At p s m meth c b 5 xs) {D : va_G} {a : Nat → Nat} {cs : Nat → ClassId} {a' : Nat → Nat} {cs' : Nat → ClassId} {o : Nat} {cJ : ClassId} {fl : Nat → Int64} (hm : lM D cs cs' cJ s) {H : Heap} {locs : List Loc} (hw : lW D a cs a' cs' o cJ fl s H locs) {ls : Array Slot} (hl : lv_has ls 9 [(0, .ref b), (1, .ref (a 0)), (2, .ref (a' 10)), (3, .ref o), (4, .int 0)]) : W p l e room_1 s m #[Value.ref b] below meth c H locs 47 402 (lw_Z below #[Value.ref b] s) (F0 m 398 ls []) := by
  rcases rg (x := xs 1) (lo := 1) (hi := 30) with ⟨h1, h0⟩ | ⟨h1, h2, h0⟩ | ⟨h1, h2, h0⟩
  · exact ll_pass_1 hst C0 hm hw hl h1 h0
  · exact ll_pass_2 hst C0 hm hw hl h1 h2 h0
  · rcases wt (xs 2) (xs 3) with ⟨hp, g1⟩ | ⟨hp, g1, g2⟩ | ⟨hx0, hx9, hy0, hy9, g1, g2⟩
    · exact ll_pass_3 hst C0 hm hw hl h1 h2 h0 hp g1
    · exact ll_pass_4 hst C0 hm hw hl h1 h2 h0 hp g1 g2
    · rcases rg (x := xs 4) (lo := 0) (hi := 40) with ⟨h3, g3⟩ | ⟨h3, h4, g3⟩ | ⟨h3, h4, g3⟩
      · exact ll_pass_5 hst C0 hm hw hl h1 h2 h0 hx0 hx9 hy0 hy9 g1 g2 h3 g3
      · exact ll_pass_6 hst C0 hm hw hl h1 h2 h0 hx0 hx9 hy0 hy9 g1 g2 h3 h4 g3
      · obtain ⟨n0, hk1, ha, hb⟩ := rg_ne (lo := 1) (hi := 30) (by decide) (by decide) h1 h2
        exact ll_pass_7 hst C0 hm hw hl n0 ⟨ha, hb⟩ hk1 (by rw [← hk1]; exact h0) hx0 hx9 hy0 hy9 g1 g2 h3 h4 g3
theorem lcs_skim {p : Program} {e : Env} {s : State} {m : MethodId} {below : List Frame} {meth : Method} {c : Code} {l : Launch} (hst : l.stackTraces = false) {b : Nat} {xs : Nat → Int32} (C0 : lw_At p s m meth c b 5 xs) {D : va_G} {a : Nat → Nat} {cs : Nat → ClassId} {a' : Nat → Nat} {cs' : Nat → ClassId} {o : Nat} {cJ : ClassId} {fl : Nat → Int64} (hm : lM D cs cs' cJ s) {H : Heap} {locs : List Loc} (hw : lW D a cs a' cs' o cJ fl s H locs) {ls : Array Slot} (hl : lv_has ls 9 [(0, .ref b), (1, .ref (a 0)), (2, .ref (a' 10)), (3, .ref o), (4, .int 0)]) : W p l e room_1 s m #[Value.ref b] below meth c H locs 47 402 (lw_Z below #[Value.ref b] s) (F0 m 490 ls []) := by
  rcases pd_of (xs 1) with ⟨k, hk, hk1⟩ | ⟨hp, hp2⟩
  · exact ll_skim_2 hst C0 hm hw hl k hk hk1
  · exact ll_skim_1 hst C0 hm hw hl hp hp2
theorem lcs_drain {p : Program} {e : Env} {s : State} {m : MethodId} {below : List Frame} {meth : Method} {c : Code} {l : Launch} (hst : l.stackTraces = false) {b : Nat} {xs : Nat → Int32} (C0 : lw_At p s m meth c b 5 xs) {D : va_G} {a : Nat → Nat} {cs : Nat → ClassId} {a' : Nat → Nat} {cs' : Nat → ClassId} {o : Nat} {cJ : ClassId} {fl : Nat → Int64} (hm : lM D cs cs' cJ s) {H : Heap} {locs : List Loc} (hw : lW D a cs a' cs' o cJ fl s H locs) {ls : Array Slot} (hl : lv_has ls 9 [(0, .ref b), (1, .ref (a 0)), (2, .ref (a' 10)), (3, .ref o), (4, .int 0)]) : W p l e room_1 s m #[Value.ref b] below meth c H locs 47 402 (lw_Z below #[Value.ref b] s) (F0 m 546 ls []) := by
  rcases pd_of (xs 1) with ⟨k, hk, hk1⟩ | ⟨hp, hp2⟩
  · exact ll_drain_2 hst C0 hm hw hl k hk hk1
  · exact ll_drain_1 hst C0 hm hw hl hp hp2
theorem lcs_pump {p : Program} {e : Env} {s : State} {m : MethodId} {below : List Frame} {meth : Method} {c : Code} {l : Launch} (hst : l.stackTraces = false) {b : Nat} {xs : Nat → Int32} (C0 : lw_At p s m meth c b 5 xs) {D : va_G} {a : Nat → Nat} {cs : Nat → ClassId} {a' : Nat → Nat} {cs' : Nat → ClassId} {o : Nat} {cJ : ClassId} {fl : Nat → Int64} (hm : lM D cs cs' cJ s) {H : Heap} {locs : List Loc} (hw : lW D a cs a' cs' o cJ fl s H locs) {ls : Array Slot} (hl : lv_has ls 9 [(0, .ref b), (1, .ref (a 0)), (2, .ref (a' 10)), (3, .ref o), (4, .int 0)]) : W p l e room_1 s m #[Value.ref b] below meth c H locs 47 402 (lw_Z below #[Value.ref b] s) (F0 m 602 ls []) := by
  rcases pd_of (xs 1) with ⟨k, hk, hk1⟩ | ⟨hp, hp2⟩
  · rcases pd_of (xs 2) with ⟨j, hj, hk2⟩ | ⟨hp, hp2⟩
    · by_cases he : nI k = nI j
      · exact ll_pump_3 hst C0 hm hw hl k hk hk1 j hj hk2 he
      · by_cases h2 : 1 ≤ xs 3
        · exact ll_pump_5 hst C0 hm hw hl k hk hk1 j hj hk2 he h2
        · exact ll_pump_4 hst C0 hm hw hl k hk hk1 j hj hk2 he h2 (ti_lt.mpr (by have := mt ti_le.mpr h2; omega))
    · exact ll_pump_2 hst C0 hm hw hl k hk hk1 hp hp2
  · exact ll_pump_1 hst C0 hm hw hl hp hp2
theorem lcs_right {p : Program} {e : Env} {s : State} {m : MethodId} {below : List Frame} {meth : Method} {c : Code} {l : Launch} (hst : l.stackTraces = false) {b : Nat} {xs : Nat → Int32} (C0 : lw_At p s m meth c b 5 xs) {D : va_G} {a : Nat → Nat} {cs : Nat → ClassId} {a' : Nat → Nat} {cs' : Nat → ClassId} {o : Nat} {cJ : ClassId} {fl : Nat → Int64} (hm : lM D cs cs' cJ s) {H : Heap} {locs : List Loc} (hw : lW D a cs a' cs' o cJ fl s H locs) {ls : Array Slot} (hl : lv_has ls 9 [(0, .ref b), (1, .ref (a 0)), (2, .ref (a' 10)), (3, .ref o), (4, .int 0)]) : W p l e room_1 s m #[Value.ref b] below meth c H locs 47 402 (lw_Z below #[Value.ref b] s) (F0 m 726 ls []) := by
  exact ll_right_1 hst C0 hm hw hl (fm_of _)
theorem lcs_wash {p : Program} {e : Env} {s : State} {m : MethodId} {below : List Frame} {meth : Method} {c : Code} {l : Launch} (hst : l.stackTraces = false) {b : Nat} {xs : Nat → Int32} (C0 : lw_At p s m meth c b 5 xs) {D : va_G} {a : Nat → Nat} {cs : Nat → ClassId} {a' : Nat → Nat} {cs' : Nat → ClassId} {o : Nat} {cJ : ClassId} {fl : Nat → Int64} (hm : lM D cs cs' cJ s) {H : Heap} {locs : List Loc} (hw : lW D a cs a' cs' o cJ fl s H locs) {ls : Array Slot} (hl : lv_has ls 9 [(0, .ref b), (1, .ref (a 0)), (2, .ref (a' 10)), (3, .ref o), (4, .int 0)]) : W p l e room_1 s m #[Value.ref b] below meth c H locs 47 402 (lw_Z below #[Value.ref b] s) (F0 m 946 ls []) := by
  exact ll_wash_1 hst C0 hm hw hl (fm_of _)
theorem lcs_sell {p : Program} {e : Env} {s : State} {m : MethodId} {below : List Frame} {meth : Method} {c : Code} {l : Launch} (hst : l.stackTraces = false) {b : Nat} {xs : Nat → Int32} (C0 : lw_At p s m meth c b 5 xs) {D : va_G} {a : Nat → Nat} {cs : Nat → ClassId} {a' : Nat → Nat} {cs' : Nat → ClassId} {o : Nat} {cJ : ClassId} {fl : Nat → Int64} (hm : lM D cs cs' cJ s) {H : Heap} {locs : List Loc} (hw : lW D a cs a' cs' o cJ fl s H locs) {ls : Array Slot} (hl : lv_has ls 9 [(0, .ref b), (1, .ref (a 0)), (2, .ref (a' 10)), (3, .ref o), (4, .int 0)]) : W p l e room_1 s m #[Value.ref b] below meth c H locs 47 402 (lw_Z below #[Value.ref b] s) (F0 m 1002 ls []) := by
  exact ll_sell_1 hst C0 hm hw hl (fm_of _)
theorem lcs_ofFamily {p : Program} {e : Env} {s : State} {m : MethodId} {below : List Frame} {meth : Method} {c : Code} {l : Launch} (hst : l.stackTraces = false) {b : Nat} {xs : Nat → Int32} (C0 : lw_At p s m meth c b 5 xs) {D : va_G} {a : Nat → Nat} {cs : Nat → ClassId} {a' : Nat → Nat} {cs' : Nat → ClassId} {o : Nat} {cJ : ClassId} {fl : Nat → Int64} (hm : lM D cs cs' cJ s) {H : Heap} {locs : List Loc} (hw : lW D a cs a' cs' o cJ fl s H locs) {ls : Array Slot} (hl : lv_has ls 9 [(0, .ref b), (1, .ref (a 0)), (2, .ref (a' 10)), (3, .ref o), (4, .int 0)]) : W p l e room_1 s m #[Value.ref b] below meth c H locs 47 402 (lw_Z below #[Value.ref b] s) (F0 m 1150 ls []) := by
  exact ll_ofFamily_1 hst C0 hm hw hl (fm_of _)
theorem lcs_rightOf {p : Program} {e : Env} {s : State} {m : MethodId} {below : List Frame} {meth : Method} {c : Code} {l : Launch} (hst : l.stackTraces = false) {b : Nat} {xs : Nat → Int32} (C0 : lw_At p s m meth c b 5 xs) {D : va_G} {a : Nat → Nat} {cs : Nat → ClassId} {a' : Nat → Nat} {cs' : Nat → ClassId} {o : Nat} {cJ : ClassId} {fl : Nat → Int64} (hm : lM D cs cs' cJ s) {H : Heap} {locs : List Loc} (hw : lW D a cs a' cs' o cJ fl s H locs) {ls : Array Slot} (hl : lv_has ls 9 [(0, .ref b), (1, .ref (a 0)), (2, .ref (a' 10)), (3, .ref o), (4, .int 0)]) : W p l e room_1 s m #[Value.ref b] below meth c H locs 47 402 (lw_Z below #[Value.ref b] s) (F0 m 1218 ls []) := by
  exact ll_rightOf_1 hst C0 hm hw hl (fm_of _)
theorem lcs_harvest {p : Program} {e : Env} {s : State} {m : MethodId} {below : List Frame} {meth : Method} {c : Code} {l : Launch} (hst : l.stackTraces = false) {b : Nat} {xs : Nat → Int32} (C0 : lw_At p s m meth c b 5 xs) {D : va_G} {a : Nat → Nat} {cs : Nat → ClassId} {a' : Nat → Nat} {cs' : Nat → ClassId} {o : Nat} {cJ : ClassId} {fl : Nat → Int64} (hm : lM D cs cs' cJ s) {H : Heap} {locs : List Loc} (hw : lW D a cs a' cs' o cJ fl s H locs) {ls : Array Slot} (hl : lv_has ls 9 [(0, .ref b), (1, .ref (a 0)), (2, .ref (a' 10)), (3, .ref o), (4, .int 0)]) : W p l e room_1 s m #[Value.ref b] below meth c H locs 47 402 (lw_Z below #[Value.ref b] s) (F0 m 806 ls []) := by
  rcases pn_of (xs 1) with ⟨q, hq, hk1⟩ | ⟨hp, hp2⟩
  · exact ll_harvest_2 hst C0 hm hw hl q hq hk1
  · exact ll_harvest_1 hst C0 hm hw hl hp hp2
theorem lcs_flower {p : Program} {e : Env} {s : State} {m : MethodId} {below : List Frame} {meth : Method} {c : Code} {l : Launch} (hst : l.stackTraces = false) {b : Nat} {xs : Nat → Int32} (C0 : lw_At p s m meth c b 5 xs) {D : va_G} {a : Nat → Nat} {cs : Nat → ClassId} {a' : Nat → Nat} {cs' : Nat → ClassId} {o : Nat} {cJ : ClassId} {fl : Nat → Int64} (hm : lM D cs cs' cJ s) {H : Heap} {locs : List Loc} (hw : lW D a cs a' cs' o cJ fl s H locs) {ls : Array Slot} (hl : lv_has ls 9 [(0, .ref b), (1, .ref (a 0)), (2, .ref (a' 10)), (3, .ref o), (4, .int 0)]) : W p l e room_1 s m #[Value.ref b] below meth c H locs 47 402 (lw_Z below #[Value.ref b] s) (F0 m 890 ls []) := by
  rcases pn_of (xs 1) with ⟨q, hq, hk1⟩ | ⟨hp, hp2⟩
  · exact ll_flower_2 hst C0 hm hw hl q hq hk1
  · exact ll_flower_1 hst C0 hm hw hl hp hp2
theorem lcs_ofPond {p : Program} {e : Env} {s : State} {m : MethodId} {below : List Frame} {meth : Method} {c : Code} {l : Launch} (hst : l.stackTraces = false) {b : Nat} {xs : Nat → Int32} (C0 : lw_At p s m meth c b 5 xs) {D : va_G} {a : Nat → Nat} {cs : Nat → ClassId} {a' : Nat → Nat} {cs' : Nat → ClassId} {o : Nat} {cJ : ClassId} {fl : Nat → Int64} (hm : lM D cs cs' cJ s) {H : Heap} {locs : List Loc} (hw : lW D a cs a' cs' o cJ fl s H locs) {ls : Array Slot} (hl : lv_has ls 9 [(0, .ref b), (1, .ref (a 0)), (2, .ref (a' 10)), (3, .ref o), (4, .int 0)]) : W p l e room_1 s m #[Value.ref b] below meth c H locs 47 402 (lw_Z below #[Value.ref b] s) (F0 m 1082 ls []) := by
  rcases pd_of (xs 1) with ⟨k, hk, hk1⟩ | ⟨hp, hp2⟩
  · rcases rg (x := xs 2) (lo := 0) (hi := 10) with ⟨h1, hy⟩ | ⟨h1, h2, hy⟩ | ⟨h1, h2, hy⟩
    · exact ll_ofPond_2 hst C0 hm hw hl k hk hk1 h1 hy
    · exact ll_ofPond_3 hst C0 hm hw hl k hk hk1 h1 h2 hy
    · obtain ⟨w, hk2, -, hb⟩ := rg_ne (lo := 0) (hi := 10) (by decide) (by decide) h1 h2
      exact ll_ofPond_4 hst C0 hm hw hl k hk hk1 w (by omega) hk2 (by rw [← hk2]; exact hy)
  · exact ll_ofPond_1 hst C0 hm hw hl hp hp2
theorem lcs_tide {p : Program} {e : Env} {s : State} {m : MethodId} {below : List Frame} {meth : Method} {c : Code} {l : Launch} (hst : l.stackTraces = false) {b : Nat} {xs : Nat → Int32} (C0 : lw_At p s m meth c b 5 xs) {D : va_G} {a : Nat → Nat} {cs : Nat → ClassId} {a' : Nat → Nat} {cs' : Nat → ClassId} {o : Nat} {cJ : ClassId} {fl : Nat → Int64} (hm : lM D cs cs' cJ s) {H : Heap} {locs : List Loc} (hw : lW D a cs a' cs' o cJ fl s H locs) {ls : Array Slot} (hl : lv_has ls 9 [(0, .ref b), (1, .ref (a 0)), (2, .ref (a' 10)), (3, .ref o), (4, .int 0)]) : W p l e room_1 s m #[Value.ref b] below meth c H locs 47 402 (lw_Z below #[Value.ref b] s) (F0 m 1286 ls []) := by
  rcases rg (x := xs 1) (lo := 0) (hi := 9999) with ⟨h1, hy⟩ | ⟨h1, h2, hy⟩ | ⟨h1, h2, hy⟩
  · exact ll_tide_1 hst C0 hm hw hl h1 hy
  · exact ll_tide_2 hst C0 hm hw hl h1 h2 hy
  · exact ll_tide_3 hst C0 hm hw hl h1 h2 hy
theorem lcs_many {p : Program} {e : Env} {s : State} {m : MethodId} {below : List Frame} {meth : Method} {c : Code} {l : Launch} (hst : l.stackTraces = false) {b : Nat} {xs : Nat → Int32} (C0 : lw_At p s m meth c b 5 xs) {D : va_G} {a : Nat → Nat} {cs : Nat → ClassId} {a' : Nat → Nat} {cs' : Nat → ClassId} {o : Nat} {cJ : ClassId} {fl : Nat → Int64} (hm : lM D cs cs' cJ s) {H : Heap} {locs : List Loc} (hw : lW D a cs a' cs' o cJ fl s H locs) {ls : Array Slot} (hl : lv_has ls 9 [(0, .ref b), (1, .ref (a 0)), (2, .ref (a' 10)), (3, .ref o), (4, .int 0)]) : W p l e room_1 s m #[Value.ref b] below meth c H locs 47 402 (lw_Z below #[Value.ref b] s) (F0 m 1342 ls []) := by
  rcases rg (x := xs 1) (lo := 0) (hi := 17) with ⟨h1, hy⟩ | ⟨h1, h2, hy⟩ | ⟨h1, h2, hy⟩
  · exact ll_many_1 hst C0 hm hw hl (Or.inl (by have := ti_lt.mp h1; rw [show (0 : Int32).toInt = 0 from rfl] at this; exact this)) hy
  · exact ll_many_1 hst C0 hm hw hl (Or.inr (by have := mt ti_le.mpr h2; rw [show (17 : Int32).toInt = 17 from rfl] at this; omega)) hy
  · obtain ⟨w, hk1, -, hb⟩ := rg_ne (lo := 0) (hi := 17) (by decide) (by decide) h1 h2
    exact ll_many_2 hst C0 hm hw hl w (by omega) hk1 (by rw [← hk1]; exact hy)
theorem lcs_crustIn {p : Program} {e : Env} {s : State} {m : MethodId} {below : List Frame} {meth : Method} {c : Code} {l : Launch} (hst : l.stackTraces = false) {b : Nat} {xs : Nat → Int32} (C0 : lw_At p s m meth c b 5 xs) {D : va_G} {a : Nat → Nat} {cs : Nat → ClassId} {a' : Nat → Nat} {cs' : Nat → ClassId} {o : Nat} {cJ : ClassId} {fl : Nat → Int64} (hm : lM D cs cs' cJ s) {H : Heap} {locs : List Loc} (hw : lW D a cs a' cs' o cJ fl s H locs) {ls : Array Slot} (hl : lv_has ls 9 [(0, .ref b), (1, .ref (a 0)), (2, .ref (a' 10)), (3, .ref o), (4, .int 0)]) : W p l e room_1 s m #[Value.ref b] below meth c H locs 47 402 (lw_Z below #[Value.ref b] s) (F0 m 1439 ls []) := by
  rcases pn_of (xs 1) with ⟨q, hq, hk1⟩ | ⟨hp, hp2⟩
  · rcases wt (xs 2) (xs 3) with ⟨hp, g1⟩ | ⟨hp, g1, g2⟩ | ⟨hx0, hx9, hy0, hy9, g1, g2⟩
    · exact ll_crustIn_2 hst C0 hm hw hl q hq hk1 hp g1
    · exact ll_crustIn_3 hst C0 hm hw hl q hq hk1 hp g1 g2
    · exact ll_crustIn_4 hst C0 hm hw hl q hq hk1 hx0 hx9 hy0 hy9 g1 g2
  · exact ll_crustIn_1 hst C0 hm hw hl hp hp2
theorem lcs_bestGates {p : Program} {e : Env} {s : State} {m : MethodId} {below : List Frame} {meth : Method} {c : Code} {l : Launch} (hst : l.stackTraces = false) {b : Nat} {xs : Nat → Int32} (C0 : lw_At p s m meth c b 5 xs) {D : va_G} {a : Nat → Nat} {cs : Nat → ClassId} {a' : Nat → Nat} {cs' : Nat → ClassId} {o : Nat} {cJ : ClassId} {fl : Nat → Int64} (hm : lM D cs cs' cJ s) {H : Heap} {locs : List Loc} (hw : lW D a cs a' cs' o cJ fl s H locs) {ls : Array Slot} (hl : lv_has ls 9 [(0, .ref b), (1, .ref (a 0)), (2, .ref (a' 10)), (3, .ref o), (4, .int 0)]) : W p l e room_1 s m #[Value.ref b] below meth c H locs 47 402 (lw_Z below #[Value.ref b] s) (F0 m 1519 ls []) := by
  rcases rg (x := xs 1) (lo := 1) (hi := 9) with ⟨h1, h0⟩ | ⟨h1, h2, h0⟩ | ⟨h1, h2, h0⟩
  · exact ll_bestGates_1 hst C0 hm hw hl h1 h0
  · exact ll_bestGates_2 hst C0 hm hw hl h1 h2 h0
  · rcases wt (xs 2) (xs 3) with ⟨hp, g1⟩ | ⟨hp, g1, g2⟩ | ⟨hx0, hx9, hy0, hy9, g1, g2⟩
    · exact ll_bestGates_3 hst C0 hm hw hl h1 h2 h0 hp g1
    · exact ll_bestGates_4 hst C0 hm hw hl h1 h2 h0 hp g1 g2
    · obtain ⟨n0, hk1, ha, hb⟩ := rg_ne (lo := 1) (hi := 9) (by decide) (by decide) h1 h2
      exact ll_bestGates_5 hst C0 hm hw hl n0 ⟨ha, hb⟩ hk1 (by rw [← hk1]; exact h0) hx0 hx9 hy0 hy9 g1 g2
theorem lcs_wouldBe {p : Program} {e : Env} {s : State} {m : MethodId} {below : List Frame} {meth : Method} {c : Code} {l : Launch} (hst : l.stackTraces = false) {b : Nat} {xs : Nat → Int32} (C0 : lw_At p s m meth c b 5 xs) {D : va_G} {a : Nat → Nat} {cs : Nat → ClassId} {a' : Nat → Nat} {cs' : Nat → ClassId} {o : Nat} {cJ : ClassId} {fl : Nat → Int64} (hm : lM D cs cs' cJ s) {H : Heap} {locs : List Loc} (hw : lW D a cs a' cs' o cJ fl s H locs) {ls : Array Slot} (hl : lv_has ls 9 [(0, .ref b), (1, .ref (a 0)), (2, .ref (a' 10)), (3, .ref o), (4, .int 0)]) : W p l e room_1 s m #[Value.ref b] below meth c H locs 47 402 (lw_Z below #[Value.ref b] s) (F0 m 1599 ls []) := by
  rcases pn_of (xs 1) with ⟨q, hq, hk1⟩ | ⟨hp, hp2⟩
  · exact ll_wouldBe_2 hst C0 hm hw hl q hq hk1 (fm_of _)
  · exact ll_wouldBe_1 hst C0 hm hw hl hp hp2
theorem lcs_tideOn {p : Program} {e : Env} {s : State} {m : MethodId} {below : List Frame} {meth : Method} {c : Code} {l : Launch} (hst : l.stackTraces = false) {b : Nat} {xs : Nat → Int32} (C0 : lw_At p s m meth c b 5 xs) {D : va_G} {a : Nat → Nat} {cs : Nat → ClassId} {a' : Nat → Nat} {cs' : Nat → ClassId} {o : Nat} {cJ : ClassId} {fl : Nat → Int64} (hm : lM D cs cs' cJ s) {H : Heap} {locs : List Loc} (hw : lW D a cs a' cs' o cJ fl s H locs) {ls : Array Slot} (hl : lv_has ls 9 [(0, .ref b), (1, .ref (a 0)), (2, .ref (a' 10)), (3, .ref o), (4, .int 0)]) : W p l e room_1 s m #[Value.ref b] below meth c H locs 47 402 (lw_Z below #[Value.ref b] s) (F0 m 1695 ls []) := by
  rcases rg (x := xs 1) (lo := 0) (hi := 20) with ⟨h1, hy⟩ | ⟨h1, h2, hy⟩ | ⟨h1, h2, hy⟩
  · exact ll_tideOn_1 hst C0 hm hw hl h1 hy
  · exact ll_tideOn_2 hst C0 hm hw hl h1 h2 hy
  · exact ll_tideOn_3 hst C0 hm hw hl h1 h2 hy
set_option maxHeartbeats 4000000 in
set_option maxRecDepth 100000 in
/-- the law's loop: no call, or one -/
theorem l_loop {p : Program} {e : Env} {s : State} {m : MethodId} {below : List Frame} {meth : Method} {c : Code} {l : Launch} (hst : l.stackTraces = false) {b : Nat} {xs : Nat → Int32} {L : Nat} (hL : L ≤ 5) (C0 : lw_At p s m meth c b L xs) {D : va_G} {a : Nat → Nat} {cs : Nat → ClassId} {a' : Nat → Nat} {cs' : Nat → ClassId} {o : Nat} {cJ : ClassId} {fl : Nat → Int64} (hm : lM D cs cs' cJ s) {H : Heap} {locs : List Loc} (hw : lW D a cs a' cs' o cJ fl s H locs) {ls : Array Slot} (hl : lv_has ls 9 [(0, .ref b), (1, .ref (a 0)), (2, .ref (a' 10)), (3, .ref o), (4, .int 0)]) (hE : mEd (a' 12) (lA s) s s.heap) (hAd : mAd s) : W p l e room_1 s m #[Value.ref b] below meth c H locs 47 402 (lw_Z below #[Value.ref b] s) (F0 m 23 ls []) := by
  obtain ⟨hx, hb, hr, hml, hown, hts0, hX, hbl, hlocks, hgv⟩ := id C0
  have hbA : ¬ lA s b := Nat.not_le.mpr hbl
  refine lv_iload hx hb dL_law_23 (lv_at hl 4 rfl) ?_
  refine lv_aload_n hx hb dL_law_25 rfl (lv_at hl 0 rfl) ?_
  refine va_slen hx hb hX hbl hbA hw.2.2 dL_law_26 ?_
  refine lv_iconst (v := 5) hx hb dL_law_27 (by decide) ?_
  refine lv_isub hx hb dL_law_28 ?_
  refine lv_icmp_gt (tgt := 1799) hx hb dL_law_29 (by decide) (fun c1 => ?_) (fun c1 => ?_)
  · refine lv_iconst (v := 1) hx hb dL_law_1799 (by decide) ?_
    refine va_forget (fun q hq => hw.2.2.2.2 q hq) ?_
    refine W.widen (k := 600002) (n := 7302232) (Nat.le_of_ble_eq_true rfl) (Nat.le_of_ble_eq_true rfl) ?_
    exact lw_ret (d0 := s.drawn) (Drawn.sameBut.refl s.drawn lw_cs) hx hb hr hlocks dL_law_1800
  · have h5 : L = 5 := by
      rcases (show L = 0 ∨ L = 1 ∨ L = 2 ∨ L = 3 ∨ L = 4 ∨ L = 5 by omega) with rfl | rfl | rfl | rfl | rfl | rfl
      · exact absurd (by decide) c1
      · exact absurd (by decide) c1
      · exact absurd (by decide) c1
      · exact absurd (by decide) c1
      · exact absurd (by decide) c1
      · rfl
    subst h5
    refine lv_aload_n hx hb dL_law_32 rfl (lv_at hl 0 rfl) ?_
    refine lv_iload hx hb dL_law_33 (lv_at hl 4 rfl) ?_
    refine va_sld hx hb hX hbl hbA hw.2.2 (vp_in_nI (n := 0) (by decide) (by decide)) dL_law_35 ?_
    refine lv_bipush (v := 31) hx hb dL_law_36 (by decide) ?_
    refine lv_iand hx hb dL_law_38 ?_
    refine lv_topi (fun x ex => ?_)
    by_cases ho : x.toInt < 0 ∨ 23 < x.toInt
    · refine lv_tableOut (tgt := 1793) hx hb dL_law_39 ho (by decide) ?_
      refine W.widen (k := 600002) (n := 7302232) (Nat.le_of_ble_eq_true rfl) (Nat.le_of_ble_eq_true rfl) ?_
      exact l_fin C0 hw.2.2 (lv_sub hl [0, 4] rfl)
    · obtain ⟨n, hn, hn2⟩ : ∃ n : Nat, x = nI n ∧ n ≤ 23 := ⟨x.toInt.toNat, nat_of (by omega), by omega⟩
      clear ex
      subst hn
      clear ho
      rcases (show n = 0 ∨ n = 1 ∨ n = 2 ∨ n = 3 ∨ n = 4 ∨ n = 5 ∨ n = 6 ∨ n = 7 ∨ n = 8 ∨ n = 9 ∨ n = 10 ∨ n = 11 ∨ n = 12 ∨ n = 13 ∨ n = 14 ∨ n = 15 ∨ n = 16 ∨ n = 17 ∨ n = 18 ∨ n = 19 ∨ n = 20 ∨ n = 21 ∨ n = 22 ∨ n = 23 by omega) with rfl | rfl | rfl | rfl | rfl | rfl | rfl | rfl | rfl | rfl | rfl | rfl | rfl | rfl | rfl | rfl | rfl | rfl | rfl | rfl | rfl | rfl | rfl | rfl
      · refine lv_tableIn (tgt := 148) hx hb dL_law_39 (by decide) (by decide) rfl (by decide) ?_
        exact lcs_area hst C0 hm hw hl
      · refine lv_tableIn (tgt := 216) hx hb dL_law_39 (by decide) (by decide) rfl (by decide) ?_
        exact lcs_gate hst C0 hm hw hl
      · refine lv_tableIn (tgt := 307) hx hb dL_law_39 (by decide) (by decide) rfl (by decide) ?_
        exact lcs_cover hst C0 hm hw hl
      · refine lv_tableIn (tgt := 398) hx hb dL_law_39 (by decide) (by decide) rfl (by decide) ?_
        exact lcs_pass hst C0 hm hw hl
      · refine lv_tableIn (tgt := 490) hx hb dL_law_39 (by decide) (by decide) rfl (by decide) ?_
        exact lcs_skim hst C0 hm hw hl
      · refine lv_tableIn (tgt := 546) hx hb dL_law_39 (by decide) (by decide) rfl (by decide) ?_
        exact lcs_drain hst C0 hm hw hl
      · refine lv_tableIn (tgt := 602) hx hb dL_law_39 (by decide) (by decide) rfl (by decide) ?_
        exact lcs_pump hst C0 hm hw hl
      · refine lv_tableIn (tgt := 682) hx hb dL_law_39 (by decide) (by decide) rfl (by decide) ?_
        exact ll_family hst C0 hm hw hl hE hAd
      · refine lv_tableIn (tgt := 726) hx hb dL_law_39 (by decide) (by decide) rfl (by decide) ?_
        exact lcs_right hst C0 hm hw hl
      · refine lv_tableIn (tgt := 806) hx hb dL_law_39 (by decide) (by decide) rfl (by decide) ?_
        exact lcs_harvest hst C0 hm hw hl
      · refine lv_tableIn (tgt := 890) hx hb dL_law_39 (by decide) (by decide) rfl (by decide) ?_
        exact lcs_flower hst C0 hm hw hl
      · refine lv_tableIn (tgt := 946) hx hb dL_law_39 (by decide) (by decide) rfl (by decide) ?_
        exact lcs_wash hst C0 hm hw hl
      · refine lv_tableIn (tgt := 1002) hx hb dL_law_39 (by decide) (by decide) rfl (by decide) ?_
        exact lcs_sell hst C0 hm hw hl
      · refine lv_tableIn (tgt := 1082) hx hb dL_law_39 (by decide) (by decide) rfl (by decide) ?_
        exact lcs_ofPond hst C0 hm hw hl
      · refine lv_tableIn (tgt := 1150) hx hb dL_law_39 (by decide) (by decide) rfl (by decide) ?_
        exact lcs_ofFamily hst C0 hm hw hl
      · refine lv_tableIn (tgt := 1218) hx hb dL_law_39 (by decide) (by decide) rfl (by decide) ?_
        exact lcs_rightOf hst C0 hm hw hl
      · refine lv_tableIn (tgt := 1286) hx hb dL_law_39 (by decide) (by decide) rfl (by decide) ?_
        exact lcs_tide hst C0 hm hw hl
      · refine lv_tableIn (tgt := 1342) hx hb dL_law_39 (by decide) (by decide) rfl (by decide) ?_
        exact lcs_many hst C0 hm hw hl
      · refine lv_tableIn (tgt := 1398) hx hb dL_law_39 (by decide) (by decide) rfl (by decide) ?_
        exact ll_mean hst C0 hm hw hl
      · refine lv_tableIn (tgt := 1439) hx hb dL_law_39 (by decide) (by decide) rfl (by decide) ?_
        exact lcs_crustIn hst C0 hm hw hl
      · refine lv_tableIn (tgt := 1519) hx hb dL_law_39 (by decide) (by decide) rfl (by decide) ?_
        exact lcs_bestGates hst C0 hm hw hl
      · refine lv_tableIn (tgt := 1599) hx hb dL_law_39 (by decide) (by decide) rfl (by decide) ?_
        exact lcs_wouldBe hst C0 hm hw hl
      · refine lv_tableIn (tgt := 1695) hx hb dL_law_39 (by decide) (by decide) rfl (by decide) ?_
        exact lcs_tideOn hst C0 hm hw hl
      · refine lv_tableIn (tgt := 1779) hx hb dL_law_39 (by decide) (by decide) rfl (by decide) ?_
        exact ll_digest hst C0 hm hw hl
