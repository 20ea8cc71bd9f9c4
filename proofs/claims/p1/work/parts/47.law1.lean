/-! The law's small steps: a number of the script, a boolean out of it, the end. -/
section LS
variable {p : Program} {l : Launch} {e : Env} {R : Room} {s : State} {m : MethodId} {args : Array Value} {below : List Frame} {meth : Method} {c : Code} {H : Heap} {locs : List Loc} {cells slots : Nat} {Q : State → Prop}
variable {pc : Nat} {ls : Array Slot} {rest : List Value}
theorem l_ld {b : Nat} {xs : Nat → Int32} {A : Nat → Prop} {v : Int32} {k : Nat} {K : Int} {cc : ByteArray} (hx : p.tables.exec = Jvm.exec) (hb : c.code = cc) (hX : va_X b 5 xs s s.heap) (hbl : b < s.heap.size) (hbA : ¬ A b) (hS : va_S A s.heap H locs) (h0 : ls[0]? = some (.val (.ref b))) (h4 : ls[4]? = some (.val (.int 0))) (hv : xs k = v) (hk : k < 5) (d0 : decode cc pc = .ok (.aload_n 0, 1)) (d1 : decode cc (pc + 1) = .ok (.iload 4, 2)) (d2 : decode cc (pc + 1 + 2) = .ok (.iconst K, 1)) (hK : Int32.ofInt K = nI k) (d3 : decode cc (pc + 1 + 2 + 1) = .ok (.iadd, 1)) (d4 : decode cc (pc + 1 + 2 + 1 + 1) = .ok (.iaload, 1))
    (kk : W p l e R s m args below meth c H locs cells slots Q (F0 m (pc + 1 + 2 + 1 + 1 + 1) ls (.int v :: rest))) : W p l e R s m args below meth c H locs cells slots Q (F0 m pc ls rest) := by
  refine lv_aload_n hx hb d0 rfl h0 ?_
  refine lv_iload hx hb d1 h4 ?_
  refine lv_iconst (v := nI k) hx hb d2 hK ?_
  refine lv_iadd hx hb d3 ?_
  refine w_top0 (v := nI k) (Int32.zero_add _) ?_
  refine va_sld hx hb hX hbl hbA hS (vp_in_nI hk (by omega)) d4 ?_
  rw [nI_clamp (by omega), hv]
  exact kk
theorem l_bool {x : Int32} {cc : ByteArray} (hx : p.tables.exec = Jvm.exec) (hb : c.code = cc) (d0 : decode cc pc = .ok (.ifCond .eq 7, 3)) (d1 : decode cc (pc + 3) = .ok (.iconst 1, 1)) (d2 : decode cc (pc + 3 + 1) = .ok (.goto 4, 3)) (d3 : decode cc (pc + 3 + 1 + 3) = .ok (.iconst 0, 1))
    (kk : W p l e R s m args below meth c H locs cells slots Q (F0 m (pc + 3 + 1 + 3 + 1) ls (.int (g_X6_one x) :: rest))) : W p l e R s m args below meth c H locs cells slots Q (F0 m pc ls (.int x :: rest)) := by
  unfold g_X6_one at kk
  refine lv_if_eq (tgt := pc + 3 + 1 + 3) hx hb d0 (by omega) (fun c1 => ?_) (fun c1 => ?_)
  · rw [if_pos c1] at kk
    exact lv_iconst (v := 0) hx hb d3 (by decide) kk
  · rw [if_neg c1] at kk
    refine lv_iconst (v := 1) hx hb d1 (by decide) ?_
    exact lv_goto (tgt := pc + 3 + 1 + 3 + 1) hx hb d2 (by omega) kk
end LS
/-- behind the one call: the script is over -/
theorem l_fin {p : Program} {e : Env} {s : State} {m : MethodId} {below : List Frame} {meth : Method} {c : Code} {l : Launch} {b : Nat} {xs : Nat → Int32} (C0 : lw_At p s m meth c b 5 xs) {H : Heap} {locs : List Loc} (hS : va_S (lA s) s.heap H locs) {ls : Array Slot} (hl : lv_has ls 9 [(0, .ref b), (4, .int 0)]) : W p l e room_1 s m #[Value.ref b] below meth c H locs 600002 7302232 (lw_Z below #[Value.ref b] s) (F0 m 1793 ls []) := by
  obtain ⟨hx, hb, hr, hml, hown, hts0, hX, hbl, hlocks, hgv⟩ := id C0
  have hbA : ¬ lA s b := Nat.not_le.mpr hbl
  refine lv_iinc (v := 5) (lv' := [(4, .int 5), (0, .ref b)]) hx hb dL_law_1793 hl (k := 1) rfl (by decide) (by decide) rfl (fun ls hl => ?_)
  refine lv_goto (tgt := 23) hx hb dL_law_1796 (by decide) ?_
  refine lv_iload hx hb dL_law_23 (lv_at hl 0 rfl) ?_
  refine lv_aload_n hx hb dL_law_25 rfl (lv_at hl 1 rfl) ?_
  refine va_slen hx hb hX hbl hbA hS dL_law_26 ?_
  refine lv_iconst (v := 5) hx hb dL_law_27 (by decide) ?_
  refine lv_isub hx hb dL_law_28 ?_
  refine lv_icmp_gt (tgt := 1799) hx hb dL_law_29 (by decide) (fun c1 => ?_) (fun c1 => absurd (by decide) c1)
  refine lv_iconst (v := 1) hx hb dL_law_1799 (by decide) ?_
  refine va_forget (fun q hq => hS.2.2 q hq) ?_
  exact lw_ret (d0 := s.drawn) (Drawn.sameBut.refl s.drawn lw_cs) hx hb hr hlocks dL_law_1800
/-! What the new objects' numbers are, for the roads. -/
theorem fr0 : mFr m_row0 := by
  refine ⟨fun k hk j h1 h2 => ?_, fun k hk => ?_, fun k hk => ?_, rfl, rfl, fun j h1 h2 => ?_, rfl⟩
  · unfold m_row0
    rw [if_pos (by omega)]
    unfold upd
    rw [if_neg (by omega), if_neg (by omega)]
  · unfold m_row0
    rw [if_pos (by omega)]
    rfl
  · unfold m_row0
    rw [if_pos (by omega)]
    rfl
  · unfold m_row0
    rw [if_neg (by omega)]
theorem one01 {x : Int32} : g_X6_one x = 0 ∨ g_X6_one x = 1 := by
  unfold g_X6_one
  split
  · exact Or.inl rfl
  · exact Or.inr rfl
theorem sZ_new : sZ f_new := fun k hk q h1 h2 => Or.inl (fn_k (by omega))
theorem d30 {n : Nat} (h : n ≤ 30) : (0 : Int32) + nI n ≤ 5000 := by
  rw [Int32.zero_add]
  exact nI_le (a := n) (b := 5000) (by omega) (by decide)
theorem pu5 {k : Nat} {z : Int32} (h : 1 ≤ z) : ¬ z ≤ f_new (5 + 8 * 0 + k) 1 := by
  rw [fn_k (by decide)]
  intro q
  have a := ti_le.mp h
  have b := ti_le.mp q
  rw [show (1 : Int32).toInt = 1 from rfl] at a
  rw [show (0 : Int32).toInt = 0 from rfl] at b
  omega
theorem pu6 {k : Nat} (hk : k < 8) {z : Int32} (h : 1 ≤ z) : m_row0 (2 + k) 1 < z := by
  rw [fr0.1 k hk 1 (by decide) (by decide), ti_lt]
  have a := ti_le.mp h
  rw [show (1 : Int32).toInt = 1 from rfl] at a
  rw [show (0 : Int32).toInt = 0 from rfl]
  omega
theorem sum09 {x y : Int32} (hx0 : ¬ x < 0) (hx9 : x ≤ 9) (hy0 : ¬ y < 0) (hy9 : y ≤ 9) : 0 ≤ (x + y).toInt ∧ (x + y).toInt ≤ 18 := by
  have a := mt ti_lt.mpr hx0
  have b := ti_le.mp hx9
  have c := mt ti_lt.mpr hy0
  have d := ti_le.mp hy9
  rw [show (0 : Int32).toInt = 0 from rfl] at a c
  rw [show (9 : Int32).toInt = 9 from rfl] at b d
  rw [ti_add (by omega) (by omega)]
  omega
theorem z40 {z : Int32} (h0 : ¬ z < 0) (h1 : z ≤ 40) : 0 ≤ z.toInt ∧ z.toInt ≤ 40 := by
  have a := mt ti_lt.mpr h0
  have b := ti_le.mp h1
  rw [show (0 : Int32).toInt = 0 from rfl] at a
  rw [show (40 : Int32).toInt = 40 from rfl] at b
  omega
theorem gk_flow {i : Nat} (hi : 10 ≤ i) : ∀ (n : Nat) (ρ : sS), n ≤ 7 → g_X5_flow n ρ i = ρ i
  | 0, _, _ => rfl
  | n + 1, ρ, hn => by
    show g_X5_flow n (g_X5_flowStep ρ n) i = ρ i
    rw [gk_flow hi n _ (by omega)]
    unfold g_X5_flowStep
    split
    · rfl
    · split
      · rfl
      · unfold g_X4_give
        rw [va_up_ne _ _ (by omega), va_up_ne _ _ (by omega)]
theorem gk_day {ρ : sS} {x y z : Int32} {i : Nat} (hi : 10 ≤ i) : g_X5_day ρ x y z i = ρ i := by
  show g_X5_fall 8 0 (g_X5_mix 8 0 (g_X5_dry (x + y) 8 0 (g_X5_rain z 8 0 (g_flown ρ)))) i = _
  rw [lp_fall, lp_out 8 0 _ (Or.inr (by omega)), lp_mix, lp_out 8 0 _ (Or.inr (by omega)), lp_dry, lp_out 8 0 _ (Or.inr (by omega)), lp_rain, lp_out 8 0 _ (Or.inr (by omega))]
  unfold g_flown
  rw [gk_flow hi 7 _ (by omega)]
  unfold g_X5_seaStep
  have e : g_X5_start ρ i = ρ i := va_up_ne _ _ (by omega)
  split
  · exact e
  · split
    · exact e
    · unfold g_X5_sea
      rw [va_up_ne _ _ (by omega), va_up_ne _ _ (by omega)]
      exact e
theorem gk_days' {x y z : Int32} {i : Nat} (hi : 10 ≤ i) : ∀ (n : Nat) (ρ : sS), g_X6_days x y z n ρ i = ρ i
  | 0, _ => rfl
  | n + 1, ρ => (gk_days' hi n _).trans (gk_day hi)
theorem gk_days {x y z : Int32} {n : Nat} {ρ : sS} : g_X6_days x y z n ρ 10 = ρ 10 := gk_days' (Nat.le_refl _) n ρ
/-! Which road: the numbers of the script. -/
theorem rg_in {x lo hi : Int32} (h1 : ¬ x < lo) (h2 : x ≤ hi) : g_X6_isIn x lo hi = 1 := by
  unfold g_X6_isIn
  rw [if_neg h1, if_neg (fun q => by have a := ti_lt.mp q; have b := ti_le.mp h2; omega)]
theorem rg_lo {x lo hi : Int32} (h1 : x < lo) : g_X6_isIn x lo hi = 0 := by
  unfold g_X6_isIn
  rw [if_pos h1]
theorem rg_hi {x lo hi : Int32} (h2 : ¬ x ≤ hi) : g_X6_isIn x lo hi = 0 := by
  unfold g_X6_isIn
  split
  · rfl
  · rw [if_pos]
    have a := mt ti_le.mpr h2
    exact ti_lt.mpr (by omega)
theorem rg {x lo hi : Int32} : (x < lo ∧ g_X6_isIn x lo hi = 0) ∨ (¬ x < lo ∧ ¬ x ≤ hi ∧ g_X6_isIn x lo hi = 0) ∨ (¬ x < lo ∧ x ≤ hi ∧ g_X6_isIn x lo hi = 1) := by
  by_cases h1 : x < lo
  · exact Or.inl ⟨h1, rg_lo h1⟩
  · by_cases h2 : x ≤ hi
    · exact Or.inr (Or.inr ⟨h1, h2, rg_in h1 h2⟩)
    · exact Or.inr (Or.inl ⟨h1, h2, rg_hi h2⟩)
theorem nat_of {x : Int32} (h : 0 ≤ x.toInt) : x = nI x.toInt.toNat := ti_eq (by
  have h2 := ti_hi x
  rw [nI_toInt (by omega)]
  omega)
theorem rg_nat {x : Int32} {lo hi : Int32} (h0 : 0 ≤ lo.toInt) (h1 : ¬ x < lo) (h2 : x ≤ hi) : ∃ n : Nat, x = nI n ∧ lo.toInt ≤ n ∧ (n : Int) ≤ hi.toInt := by
  have a := mt ti_lt.mpr h1
  have b := ti_le.mp h2
  exact ⟨x.toInt.toNat, nat_of (by omega), by omega, by omega⟩
theorem pd_of (x : Int32) : (∃ k, k < 8 ∧ x = nI k) ∨ ((x < 0 ∨ ¬ x < 0 ∧ ¬ x < 8) ∧ g_X6_isNoPond x = 1) := by
  rcases rg (x := x) (lo := 0) (hi := 7) with h | h | h
  · exact Or.inr ⟨Or.inl h.1, by unfold g_X6_isNoPond; rw [h.2]; rfl⟩
  · refine Or.inr ⟨Or.inr ⟨h.1, fun q => h.2.1 ?_⟩, by unfold g_X6_isNoPond; rw [h.2.2]; rfl⟩
    have a := ti_lt.mp q
    rw [show (8 : Int32).toInt = 8 from rfl] at a
    exact ti_le.mpr (by rw [show (7 : Int32).toInt = 7 from rfl]; omega)
  · obtain ⟨n, e, -, hn⟩ := rg_nat (by decide) h.1 h.2.1
    rw [show (7 : Int32).toInt = 7 from rfl] at hn
    exact Or.inl ⟨n, by omega, e⟩
theorem pn_of (x : Int32) : (∃ q, q < 3 ∧ x = nI (5 + q)) ∨ ((x < 5 ∨ ¬ x < 5 ∧ ¬ x < 8) ∧ g_X6_isNoPan x = 1) := by
  rcases rg (x := x) (lo := 5) (hi := 7) with h | h | h
  · exact Or.inr ⟨Or.inl h.1, by unfold g_X6_isNoPan; rw [h.2]; rfl⟩
  · refine Or.inr ⟨Or.inr ⟨h.1, fun q => h.2.1 ?_⟩, by unfold g_X6_isNoPan; rw [h.2.2]; rfl⟩
    have a := ti_lt.mp q
    rw [show (8 : Int32).toInt = 8 from rfl] at a
    exact ti_le.mpr (by rw [show (7 : Int32).toInt = 7 from rfl]; omega)
  · obtain ⟨n, e, h5, hn⟩ := rg_nat (by decide) h.1 h.2.1
    rw [show (7 : Int32).toInt = 7 from rfl] at hn
    rw [show (5 : Int32).toInt = 5 from rfl] at h5
    exact Or.inl ⟨n - 5, by omega, by rw [e]; congr 1; omega⟩
theorem fm_of (x : Int32) : x < 0 ∨ ¬ x < 0 ∧ ¬ x < f_new 0 3 := by
  by_cases h : x < 0
  · exact Or.inl h
  · exact Or.inr ⟨h, h⟩
