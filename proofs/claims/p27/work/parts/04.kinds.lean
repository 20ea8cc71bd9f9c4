/-! the places of the class's kinds among the claim's; the words of private members of nest mates that its methods call -/
abbrev kX0 : Nat := 0
theorem kcX0 : vwCl[kX0]? = some (RX0, TX0, 6) := rfl
abbrev kX1 : Nat := 1
theorem kcX1 : vwCl[kX1]? = some (RX1, TX1, 12) := rfl
abbrev kX2 : Nat := 2
theorem kcX2 : vwCl[kX2]? = some (RX2, TX2, 5) := rfl
abbrev kX3 : Nat := 3
theorem kcX3 : vwCl[kX3]? = some (RX3, TX3, 10) := rfl
def sN (U : State) : Prop := va_Nw (.methodLinkNest RX2 17 yX1_init RX3) U ∧ va_Nw (.methodLinkNest RX3 25 yX0_init RX3) U ∧ va_Nw (.methodLinkNest RX2 58 yX3_tideAt RX3) U ∧ va_Nw (.methodLinkNest RX1 18 yX3_portion RX3) U ∧ va_Nw (.methodLinkNest RX2 84 yX3_portion RX3) U ∧ va_Nw (.methodLinkNest RX1 72 yX3_roundedUp RX3) U ∧ va_Nw (.methodLinkNest RX0 22 yX3_purity RX3) U
theorem sN_X2_X1_init {U : State} (h : sN U) : va_Nw (.methodLinkNest RX2 17 yX1_init RX3) U := h.1
theorem sN_X3_X0_init {U : State} (h : sN U) : va_Nw (.methodLinkNest RX3 25 yX0_init RX3) U := h.2.1
theorem sN_X2_X3_tideAt {U : State} (h : sN U) : va_Nw (.methodLinkNest RX2 58 yX3_tideAt RX3) U := h.2.2.1
theorem sN_X1_X3_portion {U : State} (h : sN U) : va_Nw (.methodLinkNest RX1 18 yX3_portion RX3) U := h.2.2.2.1
theorem sN_X2_X3_portion {U : State} (h : sN U) : va_Nw (.methodLinkNest RX2 84 yX3_portion RX3) U := h.2.2.2.2.1
theorem sN_X1_X3_roundedUp {U : State} (h : sN U) : va_Nw (.methodLinkNest RX1 72 yX3_roundedUp RX3) U := h.2.2.2.2.2.1
theorem sN_X0_X3_purity {U : State} (h : sN U) : va_Nw (.methodLinkNest RX0 22 yX3_purity RX3) U := h.2.2.2.2.2.2
theorem sN_same {u U : State} (h : u.vm = U.vm) (hN : sN u) : sN U := ⟨va_Nw.same rfl h (sN_X2_X1_init hN), va_Nw.same rfl h (sN_X3_X0_init hN), va_Nw.same rfl h (sN_X2_X3_tideAt hN), va_Nw.same rfl h (sN_X1_X3_portion hN), va_Nw.same rfl h (sN_X2_X3_portion hN), va_Nw.same rfl h (sN_X1_X3_roundedUp hN), va_Nw.same rfl h (sN_X0_X3_purity hN)⟩
theorem sN_warm {s U : State} (h : s.WarmedH U.vm) (hN : sN s) : sN U := ⟨va_Nw.warmM h (sN_X2_X1_init hN), va_Nw.warmM h (sN_X3_X0_init hN), va_Nw.warmM h (sN_X2_X3_tideAt hN), va_Nw.warmM h (sN_X1_X3_portion hN), va_Nw.warmM h (sN_X2_X3_portion hN), va_Nw.warmM h (sN_X1_X3_roundedUp hN), va_Nw.warmM h (sN_X0_X3_purity hN)⟩
