theorem iwsX0_tick : ∀ w ∈ u_ws RX0 TX0 7, w ∈ wsX0_tick := fun _ h => List.mem_cons_of_mem _ (List.mem_append_right _ h)
set_option maxHeartbeats 4000000 in
set_option maxRecDepth 100000 in
theorem c_X0_tick (l : Launch) (dC : Nat → ClassId) (dI : Nat → Nat → Nat) (h a1 a2 a3 a4 a5 : Nat) (cA : ClassId) (me tm : Int32) (fN fM fJ fT fC : Nat → Int32) (n : Int32) (sz : Nat) : Met l yX0_tick wsX0_tick ({ frames := 0, cells := 0, slots := 0, locals := 0 }) (PW [.ref h, .int n] dC dI cA (wX h a1 a2 a3 a4 a5 cA me tm fN fM fJ fT fC) sz) (QWi dC dI (xTickR tm n) (wX h a1 a2 a3 a4 a5 cA me tm fN fM fJ fT fC) (wX h a1 a2 a3 a4 a5 cA me (xTickT tm n) fN fM fJ fT fC) sz) 0 0 (va_A (wX h a1 a2 a3 a4 a5 cA me tm fN fM fJ fT fC) sz) := by
  refine Met.ofW (cc := cX0_tick) (maxL := 2) (ret := some .int) (by decide) rfl ?_
  intro p e s m args below meth c s₁ B hml hv
  obtain ⟨rfl, hsz, hP, hK, hD0⟩ := hv
  have hx := B.exec
  have hb := B.bytes
  have hr := B.returns
  have hts := atoms_spec (ws := wsX0_tick) B.pre
  have hown : s.vm.findClass RX0 = some m.cls := findClass_of_methodNamed B.named
  have hlocks := B.notSynchronized
  have S : CallFix p m c cX0_tick 2 s ([.ref h, .int n] : List Value).toArray wsX0_tick RX0 := ⟨hx, hb, hml, hown, hts⟩
  subst hsz
  have hD := hD0.self (sz := s.heap.size)
  generalize hAe : va_A (wX h a1 a2 a3 a4 a5 cA me tm fN fM fJ fT fC) s.heap.size = A at hD ⊢
  have hAA : ∀ q : Nat, s.heap.size ≤ q → A q := fun q h => by rw [← hAe]; exact Or.inr h
  have hS : va_S A s.heap s.heap [] := va_S.rf
  have hQ9 := hAe
  have hl := lv_entry ([.ref h, .int n]) (n := 2) (Nat.le_of_ble_eq_true rfl)
  rw [lg_entry_eq]
  generalize (lg_sl ([.ref h, .int n]) ++ List.replicate (2 - (lg_sl ([.ref h, .int n])).length) Slot.unset).toArray = ls at hl ⊢
  have hl : lv_has ls 2 [(0, .ref h), (1, .int n)] := hl
  refine lv_iload_n hx hb dX0_tick_0 rfl (lv_at hl 1 rfl) ?_
  refine lv_iconst (v := 1) hx hb dX0_tick_1 (by decide) ?_
  refine lv_icmp_lt (tgt := 22) hx hb dX0_tick_2 (by decide) (fun c2 => ?_) (fun c2 => ?_)
  · refine lv_iconst (v := -1) hx hb dX0_tick_22 (by decide) ?_
    have e1 : xTickT tm n = tm := by simp [xTickR, xTickT, xTickB, c2]
    have hP9 : va_P (dC, dI) vwCl (wX h a1 a2 a3 a4 a5 cA me (xTickT tm n) fN fM fJ fT fC) s.heap := by rw [e1]; exact hP
    have er : (-1 : Int32) = xTickR tm n := by simp [xTickR, xTickT, xTickB, c2]
    exact W.iret (v := (-1 : Int32)) hx hb hr (fun t ht hW => ⟨⟨_, (), rfl, er, by dsimp only; rw [ht]; exact hP9⟩, by rw [hQ9]; exact hS.F ht⟩) hS.2.2 dX0_tick_23
  · refine lv_iload_n hx hb dX0_tick_5 rfl (lv_at hl 1 rfl) ?_
    refine lv_bipush (v := 100) hx hb dX0_tick_6 (by decide) ?_
    refine lv_icmp_gt (tgt := 22) hx hb dX0_tick_8 (by decide) (fun c8 => ?_) (fun c8 => ?_)
    · refine lv_iconst (v := -1) hx hb dX0_tick_22 (by decide) ?_
      have e1 : xTickT tm n = tm := by simp [xTickR, xTickT, xTickB, c2, c8]
      have hP9 : va_P (dC, dI) vwCl (wX h a1 a2 a3 a4 a5 cA me (xTickT tm n) fN fM fJ fT fC) s.heap := by rw [e1]; exact hP
      have er : (-1 : Int32) = xTickR tm n := by simp [xTickR, xTickT, xTickB, c2, c8]
      exact W.iret (v := (-1 : Int32)) hx hb hr (fun t ht hW => ⟨⟨_, (), rfl, er, by dsimp only; rw [ht]; exact hP9⟩, by rw [hQ9]; exact hS.F ht⟩) hS.2.2 dX0_tick_23
    · refine lv_aload_n hx hb dX0_tick_11 rfl (lv_at hl 0 rfl) ?_
      refine va_get (D := (dC, dI)) (ci := 0) (v := .int tm) (C := RX0) (T := TX0) (N := 7) hx hb hts iwsX0_tick hown hK hP 0 rfl rfl 1 (by decide) (hts (.fieldLink RX0 38 "BranchTimes" "time" "I") (by decide +kernel)) (fun _ h9 => h9) rfl dX0_tick_12 ?_
      refine lv_iload_n hx hb dX0_tick_15 rfl (lv_at hl 1 rfl) ?_
      refine lv_iadd hx hb dX0_tick_16 ?_
      refine lv_ldc (v := 100000) hx hb hown (hts (.constant RX0 41 (100000)) (by decide +kernel)) dX0_tick_17 ?_
      refine lv_icmp_le (tgt := 24) hx hb dX0_tick_19 (by decide) (fun c19 => ?_) (fun c19 => ?_)
      · refine lv_aload_n hx hb dX0_tick_24 rfl (lv_at hl 0 rfl) ?_
        refine lv_dup hx hb dX0_tick_25 rfl ?_
        refine va_get (D := (dC, dI)) (ci := 0) (v := .int tm) (C := RX0) (T := TX0) (N := 7) hx hb hts iwsX0_tick hown hK hP 0 rfl rfl 1 (by decide) (hts (.fieldLink RX0 38 "BranchTimes" "time" "I") (by decide +kernel)) (fun _ h9 => h9) rfl dX0_tick_26 ?_
        refine lv_iload_n hx hb dX0_tick_29 rfl (lv_at hl 1 rfl) ?_
        refine lv_iadd hx hb dX0_tick_30 ?_
        refine va_put (D := (dC, dI)) (ci := 0) (v := .int (tm + n)) (ty := .int) (C := RX0) (T := TX0) (N := 7) hx hb hts iwsX0_tick tyX0 tyX0_ok nmX0 hown hK hP hD hS 0 rfl rfl 1 (by decide) (hts (.fieldLink RX0 38 "BranchTimes" "time" "I") (by decide +kernel)) (fun _ h9 => h9) rfl (by decide +kernel) rfl rfl (Nat.le_of_ble_eq_true rfl) dX0_tick_31 (fun H locs hP hD hS => ?_)
        have hP : va_P (dC, dI) vwCl (wX h a1 a2 a3 a4 a5 cA me (tm + n) fN fM fJ fT fC) H := hP
        have hD : va_D A (wX h a1 a2 a3 a4 a5 cA me (tm + n) fN fM fJ fT fC) := hD
        refine lv_aload_n hx hb dX0_tick_34 rfl (lv_at hl 0 rfl) ?_
        refine va_get (D := (dC, dI)) (ci := 0) (v := .int (tm + n)) (C := RX0) (T := TX0) (N := 7) hx hb hts iwsX0_tick hown hK hP 0 rfl rfl 1 (by decide) (hts (.fieldLink RX0 38 "BranchTimes" "time" "I") (by decide +kernel)) (fun _ h9 => h9) rfl dX0_tick_35 ?_
        have e1 : xTickT tm n = tm + n := by simp [xTickR, xTickT, xTickB, c2, c8, c19]
        have hP9 : va_P (dC, dI) vwCl (wX h a1 a2 a3 a4 a5 cA me (xTickT tm n) fN fM fJ fT fC) H := by rw [e1]; exact hP
        have er : tm + n = xTickR tm n := by simp [xTickR, xTickT, xTickB, c2, c8, c19]
        exact W.iret (v := tm + n) hx hb hr (fun t ht hW => ⟨⟨_, (), rfl, er, by dsimp only; rw [ht]; exact hP9⟩, by rw [hQ9]; exact hS.F ht⟩) hS.2.2 dX0_tick_38
      · refine lv_iconst (v := -1) hx hb dX0_tick_22 (by decide) ?_
        have e1 : xTickT tm n = tm := by simp [xTickR, xTickT, xTickB, c2, c8, c19]
        have hP9 : va_P (dC, dI) vwCl (wX h a1 a2 a3 a4 a5 cA me (xTickT tm n) fN fM fJ fT fC) s.heap := by rw [e1]; exact hP
        have er : (-1 : Int32) = xTickR tm n := by simp [xTickR, xTickT, xTickB, c2, c8, c19]
        exact W.iret (v := (-1 : Int32)) hx hb hr (fun t ht hW => ⟨⟨_, (), rfl, er, by dsimp only; rw [ht]; exact hP9⟩, by rw [hQ9]; exact hS.F ht⟩) hS.2.2 dX0_tick_23
theorem hd_X0_tick : yX0_tick.cls = RX0 ∧ yX0_tick.cls ≠ "java/lang/invoke/MethodHandle" ∧ yX0_tick.cls ≠ "java/lang/invoke/VarHandle" ∧ (parseMethodDescriptor yX0_tick.desc).map (fun d => d.parameters.length) = some 1 := by decide +kernel

theorem iwsX0_hello : ∀ w ∈ u_ws RX0 TX0 7, w ∈ wsX0_hello := fun _ h => List.mem_cons_of_mem _ (List.mem_append_right _ h)
set_option maxHeartbeats 4000000 in
set_option maxRecDepth 100000 in
theorem c_X0_hello (l : Launch) (dC : Nat → ClassId) (dI : Nat → Nat → Nat) (h a1 a2 a3 a4 a5 : Nat) (cA : ClassId) (me tm : Int32) (fN fM fJ fT fC : Nat → Int32) (n : Int32) (sz : Nat) : Met l yX0_hello wsX0_hello ({ frames := 0, cells := 0, slots := 0, locals := 0 }) (PW [.ref h, .int n] dC dI cA (wX h a1 a2 a3 a4 a5 cA me tm fN fM fJ fT fC) sz) (QWi dC dI (bI (!xHeB me n)) (wX h a1 a2 a3 a4 a5 cA me tm fN fM fJ fT fC) (wX h a1 a2 a3 a4 a5 cA me tm (xHeN me tm fN n) fM fJ fT fC) sz) 0 0 (va_A (wX h a1 a2 a3 a4 a5 cA me tm fN fM fJ fT fC) sz) := by
  refine Met.ofW (cc := cX0_hello) (maxL := 2) (ret := some .boolean) (by decide) rfl ?_
  intro p e s m args below meth c s₁ B hml hv
  obtain ⟨rfl, hsz, hP, hK, hD0⟩ := hv
  have hx := B.exec
  have hb := B.bytes
  have hr := B.returns
  have hts := atoms_spec (ws := wsX0_hello) B.pre
  have hown : s.vm.findClass RX0 = some m.cls := findClass_of_methodNamed B.named
  have hlocks := B.notSynchronized
  have S : CallFix p m c cX0_hello 2 s ([.ref h, .int n] : List Value).toArray wsX0_hello RX0 := ⟨hx, hb, hml, hown, hts⟩
  subst hsz
  have hD := hD0.self (sz := s.heap.size)
  generalize hAe : va_A (wX h a1 a2 a3 a4 a5 cA me tm fN fM fJ fT fC) s.heap.size = A at hD ⊢
  have hAA : ∀ q : Nat, s.heap.size ≤ q → A q := fun q h => by rw [← hAe]; exact Or.inr h
  have hS : va_S A s.heap s.heap [] := va_S.rf
  have hQ9 := hAe
  have hl := lv_entry ([.ref h, .int n]) (n := 2) (Nat.le_of_ble_eq_true rfl)
  rw [lg_entry_eq]
  generalize (lg_sl ([.ref h, .int n]) ++ List.replicate (2 - (lg_sl ([.ref h, .int n])).length) Slot.unset).toArray = ls at hl ⊢
  have hl : lv_has ls 2 [(0, .ref h), (1, .int n)] := hl
  refine lv_iload_n hx hb dX0_hello_0 rfl (lv_at hl 1 rfl) ?_
  refine lv_if_lt (tgt := 18) hx hb dX0_hello_1 (by decide) (fun c1 => ?_) (fun c1 => ?_)
  · refine lv_iconst (v := 0) hx hb dX0_hello_18 (by decide) ?_
    have e2 : xHeN me tm fN n = fN := by simp [xHeB, xHeN, bI, c1]
    have hP9 : va_P (dC, dI) vwCl (wX h a1 a2 a3 a4 a5 cA me tm (xHeN me tm fN n) fM fJ fT fC) s.heap := by rw [e2]; exact hP
    have er : (0 : Int32) = bI (!xHeB me n) := by simp [xHeB, xHeN, bI, c1]
    exact W.zret (v := (0 : Int32)) (ty := .boolean) hx hb hr rfl (fun t ht hW => ⟨⟨_, (), rfl, er, by dsimp only; rw [ht]; exact hP9⟩, by rw [hQ9]; exact hS.F ht⟩) hS.2.2 dX0_hello_19
  · refine lv_iload_n hx hb dX0_hello_4 rfl (lv_at hl 1 rfl) ?_
    refine lv_bipush (v := 10) hx hb dX0_hello_5 (by decide) ?_
    refine lv_icmp_ge (tgt := 18) hx hb dX0_hello_7 (by decide) (fun c7 => ?_) (fun c7 => ?_)
    · refine lv_iconst (v := 0) hx hb dX0_hello_18 (by decide) ?_
      have e2 : xHeN me tm fN n = fN := by simp [xHeB, xHeN, bI, c1, c7]
      have hP9 : va_P (dC, dI) vwCl (wX h a1 a2 a3 a4 a5 cA me tm (xHeN me tm fN n) fM fJ fT fC) s.heap := by rw [e2]; exact hP
      have er : (0 : Int32) = bI (!xHeB me n) := by simp [xHeB, xHeN, bI, c1, c7]
      exact W.zret (v := (0 : Int32)) (ty := .boolean) hx hb hr rfl (fun t ht hW => ⟨⟨_, (), rfl, er, by dsimp only; rw [ht]; exact hP9⟩, by rw [hQ9]; exact hS.F ht⟩) hS.2.2 dX0_hello_19
    · refine lv_iload_n hx hb dX0_hello_10 rfl (lv_at hl 1 rfl) ?_
      refine lv_aload_n hx hb dX0_hello_11 rfl (lv_at hl 0 rfl) ?_
      refine va_get (D := (dC, dI)) (ci := 0) (v := .int me) (C := RX0) (T := TX0) (N := 7) hx hb hts iwsX0_hello hown hK hP 0 rfl rfl 0 (by decide) (hts (.fieldLink RX0 34 "BranchTimes" "me" "I") (by decide +kernel)) (fun _ h9 => h9) rfl dX0_hello_12 ?_
      refine lv_icmp_ne (tgt := 20) hx hb dX0_hello_15 (by decide) (fun c15 => ?_) (fun c15 => ?_)
      · refine lv_aload_n hx hb dX0_hello_20 rfl (lv_at hl 0 rfl) ?_
        refine va_get (D := (dC, dI)) (ci := 0) (v := .ref a1) (C := RX0) (T := TX0) (N := 7) hx hb hts iwsX0_hello hown hK hP 0 rfl rfl 2 (by decide) (hts (.fieldLink RX0 9 "BranchTimes" "neighbourTill" "[I") (by decide +kernel)) (fun _ h9 => h9) rfl dX0_hello_21 ?_
        refine lv_iload_n hx hb dX0_hello_24 rfl (lv_at hl 1 rfl) ?_
        refine lv_aload_n hx hb dX0_hello_25 rfl (lv_at hl 0 rfl) ?_
        refine va_get (D := (dC, dI)) (ci := 0) (v := .int tm) (C := RX0) (T := TX0) (N := 7) hx hb hts iwsX0_hello hown hK hP 0 rfl rfl 1 (by decide) (hts (.fieldLink RX0 38 "BranchTimes" "time" "I") (by decide +kernel)) (fun _ h9 => h9) rfl dX0_hello_26 ?_
        refine lv_bipush (v := 65) hx hb dX0_hello_29 (by decide) ?_
        refine lv_iadd hx hb dX0_hello_31 ?_
        refine va_iast (D := (dC, dI)) hx hb hK hP hD hS 1 0 rfl rfl (He_in (me := me) (by simp [xHeB, c1, c7, c15])) dX0_hello_32 (fun H locs hP hD hS => ?_)
        have hP : va_P (dC, dI) vwCl (wX h a1 a2 a3 a4 a5 cA me tm (upd fN n.toNatClampNeg (tm + ((65 : Int32)))) fM fJ fT fC) H := hP
        have hD : va_D A (wX h a1 a2 a3 a4 a5 cA me tm (upd fN n.toNatClampNeg (tm + ((65 : Int32)))) fM fJ fT fC) := hD
        refine lv_iconst (v := 1) hx hb dX0_hello_33 (by decide) ?_
        have e2 : xHeN me tm fN n = upd fN n.toNatClampNeg (tm + ((65 : Int32))) := by simp [xHeB, xHeN, bI, c1, c7, c15]
        have hP9 : va_P (dC, dI) vwCl (wX h a1 a2 a3 a4 a5 cA me tm (xHeN me tm fN n) fM fJ fT fC) H := by rw [e2]; exact hP
        have er : (1 : Int32) = bI (!xHeB me n) := by simp [xHeB, xHeN, bI, c1, c7, c15]
        exact W.zret (v := (1 : Int32)) (ty := .boolean) hx hb hr rfl (fun t ht hW => ⟨⟨_, (), rfl, er, by dsimp only; rw [ht]; exact hP9⟩, by rw [hQ9]; exact hS.F ht⟩) hS.2.2 dX0_hello_34
      · refine lv_iconst (v := 0) hx hb dX0_hello_18 (by decide) ?_
        have e2 : xHeN me tm fN n = fN := by simp [xHeB, xHeN, bI, c1, c7, c15]
        have hP9 : va_P (dC, dI) vwCl (wX h a1 a2 a3 a4 a5 cA me tm (xHeN me tm fN n) fM fJ fT fC) s.heap := by rw [e2]; exact hP
        have er : (0 : Int32) = bI (!xHeB me n) := by simp [xHeB, xHeN, bI, c1, c7, c15]
        exact W.zret (v := (0 : Int32)) (ty := .boolean) hx hb hr rfl (fun t ht hW => ⟨⟨_, (), rfl, er, by dsimp only; rw [ht]; exact hP9⟩, by rw [hQ9]; exact hS.F ht⟩) hS.2.2 dX0_hello_19
theorem hd_X0_hello : yX0_hello.cls = RX0 ∧ yX0_hello.cls ≠ "java/lang/invoke/MethodHandle" ∧ yX0_hello.cls ≠ "java/lang/invoke/VarHandle" ∧ (parseMethodDescriptor yX0_hello.desc).map (fun d => d.parameters.length) = some 1 := by decide +kernel

theorem iwsX0_report : ∀ w ∈ u_ws RX0 TX0 7, w ∈ wsX0_report := fun _ h => List.mem_cons_of_mem _ (List.mem_append_right _ h)
set_option maxHeartbeats 4000000 in
set_option maxRecDepth 100000 in
theorem c_X0_report (l : Launch) (dC : Nat → ClassId) (dI : Nat → Nat → Nat) (h a1 a2 a3 a4 a5 : Nat) (cA : ClassId) (me tm : Int32) (fN fM fJ fT fC : Nat → Int32) (g : Int32) (sz : Nat) : Met l yX0_report wsX0_report ({ frames := 1, cells := 0, slots := 0, locals := 20 }) (PW [.ref h, .int g] dC dI cA (wX h a1 a2 a3 a4 a5 cA me tm fN fM fJ fT fC) sz) (QWi dC dI (bI (xG g)) (wX h a1 a2 a3 a4 a5 cA me tm fN fM fJ fT fC) (wX h a1 a2 a3 a4 a5 cA me tm fN (xReM tm fM g) fJ fT fC) sz) 0 0 (va_A (wX h a1 a2 a3 a4 a5 cA me tm fN fM fJ fT fC) sz) := by
  refine Met.ofW (cc := cX0_report) (maxL := 2) (ret := some .boolean) (by decide) rfl ?_
  intro p e s m args below meth c s₁ B hml hv
  obtain ⟨rfl, hsz, hP, hK, hD0⟩ := hv
  have hx := B.exec
  have hb := B.bytes
  have hr := B.returns
  have hts := atoms_spec (ws := wsX0_report) B.pre
  have hown : s.vm.findClass RX0 = some m.cls := findClass_of_methodNamed B.named
  have hlocks := B.notSynchronized
  have S : CallFix p m c cX0_report 2 s ([.ref h, .int g] : List Value).toArray wsX0_report RX0 := ⟨hx, hb, hml, hown, hts⟩
  subst hsz
  have hD := hD0.self (sz := s.heap.size)
  generalize hAe : va_A (wX h a1 a2 a3 a4 a5 cA me tm fN fM fJ fT fC) s.heap.size = A at hD ⊢
  have hAA : ∀ q : Nat, s.heap.size ≤ q → A q := fun q h => by rw [← hAe]; exact Or.inr h
  have hS : va_S A s.heap s.heap [] := va_S.rf
  have hQ9 := hAe
  have hl := lv_entry ([.ref h, .int g]) (n := 2) (Nat.le_of_ble_eq_true rfl)
  rw [lg_entry_eq]
  generalize (lg_sl ([.ref h, .int g]) ++ List.replicate (2 - (lg_sl ([.ref h, .int g])).length) Slot.unset).toArray = ls at hl ⊢
  have hl : lv_has ls 2 [(0, .ref h), (1, .int g)] := hl
  refine lv_iload_n hx hb dX0_report_0 rfl (lv_at hl 1 rfl) ?_
  refine rd_S (As := [.int g]) (rest := []) S (c_X0_isGroup l g) gX0_report_X0_isGroup rfl ⟨rfl, rfl⟩ hd_X0_isGroup ⟨Nat.le_of_ble_eq_true rfl, Nat.le_of_ble_eq_true rfl⟩ rfl hl.1 rfl (Nat.le_of_ble_eq_true rfl) dX0_report_1 ⟨Nat.le_of_ble_eq_true rfl, Nat.le_of_ble_eq_true rfl⟩ ?_
  refine lv_if_ne (tgt := 9) hx hb dX0_report_4 (by decide) (fun c4 => ?_) (fun c4 => ?_)
  · have b4 := bI_nz c4
    refine lv_aload_n hx hb dX0_report_9 rfl (lv_at hl 0 rfl) ?_
    refine va_get (D := (dC, dI)) (ci := 0) (v := .ref a2) (C := RX0) (T := TX0) (N := 7) hx hb hts iwsX0_report hown hK hP 0 rfl rfl 3 (by decide) (hts (.fieldLink RX0 13 "BranchTimes" "membersTill" "[I") (by decide +kernel)) (fun _ h9 => h9) rfl dX0_report_10 ?_
    refine lv_iload_n hx hb dX0_report_13 rfl (lv_at hl 1 rfl) ?_
    refine lv_aload_n hx hb dX0_report_14 rfl (lv_at hl 0 rfl) ?_
    refine va_get (D := (dC, dI)) (ci := 0) (v := .int tm) (C := RX0) (T := TX0) (N := 7) hx hb hts iwsX0_report hown hK hP 0 rfl rfl 1 (by decide) (hts (.fieldLink RX0 38 "BranchTimes" "time" "I") (by decide +kernel)) (fun _ h9 => h9) rfl dX0_report_15 ?_
    refine lv_bipush (v := 60) hx hb dX0_report_18 (by decide) ?_
    refine lv_iadd hx hb dX0_report_20 ?_
    refine va_iast (D := (dC, dI)) hx hb hK hP hD hS 2 0 rfl rfl (G_in b4) dX0_report_21 (fun H locs hP hD hS => ?_)
    have hP : va_P (dC, dI) vwCl (wX h a1 a2 a3 a4 a5 cA me tm fN (upd fM g.toNatClampNeg (tm + ((60 : Int32)))) fJ fT fC) H := hP
    have hD : va_D A (wX h a1 a2 a3 a4 a5 cA me tm fN (upd fM g.toNatClampNeg (tm + ((60 : Int32)))) fJ fT fC) := hD
    refine lv_iconst (v := 1) hx hb dX0_report_22 (by decide) ?_
    have e3 : xReM tm fM g = upd fM g.toNatClampNeg (tm + ((60 : Int32))) := by simp [xReM, bI, b4]
    have hP9 : va_P (dC, dI) vwCl (wX h a1 a2 a3 a4 a5 cA me tm fN (xReM tm fM g) fJ fT fC) H := by rw [e3]; exact hP
    have er : (1 : Int32) = bI (xG g) := by simp [xReM, bI, b4]
    exact W.zret (v := (1 : Int32)) (ty := .boolean) hx hb hr rfl (fun t ht hW => ⟨⟨_, (), rfl, er, by dsimp only; rw [ht]; exact hP9⟩, by rw [hQ9]; exact hS.F ht⟩) hS.2.2 dX0_report_23
  · have b4 := bI_z c4
    refine lv_iconst (v := 0) hx hb dX0_report_7 (by decide) ?_
    have e3 : xReM tm fM g = fM := by simp [xReM, bI, b4]
    have hP9 : va_P (dC, dI) vwCl (wX h a1 a2 a3 a4 a5 cA me tm fN (xReM tm fM g) fJ fT fC) s.heap := by rw [e3]; exact hP
    have er : (0 : Int32) = bI (xG g) := by simp [xReM, bI, b4]
    exact W.zret (v := (0 : Int32)) (ty := .boolean) hx hb hr rfl (fun t ht hW => ⟨⟨_, (), rfl, er, by dsimp only; rw [ht]; exact hP9⟩, by rw [hQ9]; exact hS.F ht⟩) hS.2.2 dX0_report_8
theorem hd_X0_report : yX0_report.cls = RX0 ∧ yX0_report.cls ≠ "java/lang/invoke/MethodHandle" ∧ yX0_report.cls ≠ "java/lang/invoke/VarHandle" ∧ (parseMethodDescriptor yX0_report.desc).map (fun d => d.parameters.length) = some 1 := by decide +kernel

theorem iwsX0_leave : ∀ w ∈ u_ws RX0 TX0 7, w ∈ wsX0_leave := fun _ h => List.mem_cons_of_mem _ (List.mem_append_right _ h)
set_option maxHeartbeats 4000000 in
set_option maxRecDepth 100000 in
theorem c_X0_leave (l : Launch) (dC : Nat → ClassId) (dI : Nat → Nat → Nat) (h a1 a2 a3 a4 a5 : Nat) (cA : ClassId) (me tm : Int32) (fN fM fJ fT fC : Nat → Int32) (g : Int32) (sz : Nat) : Met l yX0_leave wsX0_leave ({ frames := 3, cells := 0, slots := 0, locals := 64 }) (PW [.ref h, .int g] dC dI cA (wX h a1 a2 a3 a4 a5 cA me tm fN fM fJ fT fC) sz) (QWi dC dI (bI (xLeB me tm fN fM g)) (wX h a1 a2 a3 a4 a5 cA me tm fN fM fJ fT fC) (wX h a1 a2 a3 a4 a5 cA me tm fN (xLeM me tm fN fM g) fJ fT fC) sz) 0 0 (va_A (wX h a1 a2 a3 a4 a5 cA me tm fN fM fJ fT fC) sz) := by
  refine Met.ofW (cc := cX0_leave) (maxL := 2) (ret := some .boolean) (by decide) rfl ?_
  intro p e s m args below meth c s₁ B hml hv
  obtain ⟨rfl, hsz, hP, hK, hD0⟩ := hv
  have hx := B.exec
  have hb := B.bytes
  have hr := B.returns
  have hts := atoms_spec (ws := wsX0_leave) B.pre
  have hown : s.vm.findClass RX0 = some m.cls := findClass_of_methodNamed B.named
  have hlocks := B.notSynchronized
  have S : CallFix p m c cX0_leave 2 s ([.ref h, .int g] : List Value).toArray wsX0_leave RX0 := ⟨hx, hb, hml, hown, hts⟩
  subst hsz
  have hD := hD0.self (sz := s.heap.size)
  generalize hAe : va_A (wX h a1 a2 a3 a4 a5 cA me tm fN fM fJ fT fC) s.heap.size = A at hD ⊢
  have hAA : ∀ q : Nat, s.heap.size ≤ q → A q := fun q h => by rw [← hAe]; exact Or.inr h
  have hS : va_S A s.heap s.heap [] := va_S.rf
  have hQ9 := hAe
  have hl := lv_entry ([.ref h, .int g]) (n := 2) (Nat.le_of_ble_eq_true rfl)
  rw [lg_entry_eq]
  generalize (lg_sl ([.ref h, .int g]) ++ List.replicate (2 - (lg_sl ([.ref h, .int g])).length) Slot.unset).toArray = ls at hl ⊢
  have hl : lv_has ls 2 [(0, .ref h), (1, .int g)] := hl
  refine lv_iload_n hx hb dX0_leave_0 rfl (lv_at hl 1 rfl) ?_
  refine rd_S (As := [.int g]) (rest := []) S (c_X0_isGroup l g) gX0_leave_X0_isGroup rfl ⟨rfl, rfl⟩ hd_X0_isGroup ⟨Nat.le_of_ble_eq_true rfl, Nat.le_of_ble_eq_true rfl⟩ rfl hl.1 rfl (Nat.le_of_ble_eq_true rfl) dX0_leave_1 ⟨Nat.le_of_ble_eq_true rfl, Nat.le_of_ble_eq_true rfl⟩ ?_
  refine lv_if_eq (tgt := 27) hx hb dX0_leave_4 (by decide) (fun c4 => ?_) (fun c4 => ?_)
  · have b4 := bI_z c4
    refine lv_iconst (v := 0) hx hb dX0_leave_27 (by decide) ?_
    have e3 : xLeM me tm fN fM g = fM := by simp [xLeB, xLeM, bI, b4]
    have hP9 : va_P (dC, dI) vwCl (wX h a1 a2 a3 a4 a5 cA me tm fN (xLeM me tm fN fM g) fJ fT fC) s.heap := by rw [e3]; exact hP
    have er : (0 : Int32) = bI (xLeB me tm fN fM g) := by simp [xLeB, xLeM, bI, b4]
    exact W.zret (v := (0 : Int32)) (ty := .boolean) hx hb hr rfl (fun t ht hW => ⟨⟨_, (), rfl, er, by dsimp only; rw [ht]; exact hP9⟩, by rw [hQ9]; exact hS.F ht⟩) hS.2.2 dX0_leave_28
  · have b4 := bI_nz c4
    refine lv_aload_n hx hb dX0_leave_7 rfl (lv_at hl 0 rfl) ?_
    refine lv_aload_n hx hb dX0_leave_8 rfl (lv_at hl 0 rfl) ?_
    refine va_get (D := (dC, dI)) (ci := 0) (v := .ref a2) (C := RX0) (T := TX0) (N := 7) hx hb hts iwsX0_leave hown hK hP 0 rfl rfl 3 (by decide) (hts (.fieldLink RX0 13 "BranchTimes" "membersTill" "[I") (by decide +kernel)) (fun _ h9 => h9) rfl dX0_leave_9 ?_
    refine lv_iload_n hx hb dX0_leave_12 rfl (lv_at hl 1 rfl) ?_
    refine va_iald (D := (dC, dI)) hx hb hK hP 2 0 rfl rfl (G_in b4) dX0_leave_13 ?_
    refine rd_V (As := [.int (fM g.toNatClampNeg)]) (rest := []) (ci := 0) (qc := (RX0, TX0, 7)) S (c_X0_stands l dC dI h a1 a2 a3 a4 a5 cA me tm fN fM fJ fT fC (fM g.toNatClampNeg)) gX0_leave_X0_stands rfl ⟨rfl, rfl⟩ hd_X0_stands ⟨Nat.le_of_ble_eq_true rfl, Nat.le_of_ble_eq_true rfl⟩ hK hP rfl rfl rfl hl.1 rfl (Nat.le_of_ble_eq_true rfl) dX0_leave_14 ⟨Nat.le_of_ble_eq_true rfl, Nat.le_of_ble_eq_true rfl⟩ ?_
    refine lv_if_eq (tgt := 27) hx hb dX0_leave_17 (by decide) (fun c17 => ?_) (fun c17 => ?_)
    · have b17 := bI_z c17
      refine lv_iconst (v := 0) hx hb dX0_leave_27 (by decide) ?_
      have e3 : xLeM me tm fN fM g = fM := by simp [xLeB, xLeM, bI, b4, b17]
      have hP9 : va_P (dC, dI) vwCl (wX h a1 a2 a3 a4 a5 cA me tm fN (xLeM me tm fN fM g) fJ fT fC) s.heap := by rw [e3]; exact hP
      have er : (0 : Int32) = bI (xLeB me tm fN fM g) := by simp [xLeB, xLeM, bI, b4, b17]
      exact W.zret (v := (0 : Int32)) (ty := .boolean) hx hb hr rfl (fun t ht hW => ⟨⟨_, (), rfl, er, by dsimp only; rw [ht]; exact hP9⟩, by rw [hQ9]; exact hS.F ht⟩) hS.2.2 dX0_leave_28
    · have b17 := bI_nz c17
      refine lv_aload_n hx hb dX0_leave_20 rfl (lv_at hl 0 rfl) ?_
      refine rd_V (As := []) (rest := []) (ci := 0) (qc := (RX0, TX0, 7)) S (c_X0_isAsking l dC dI h a1 a2 a3 a4 a5 cA me tm fN fM fJ fT fC) gX0_leave_X0_isAsking rfl ⟨rfl, rfl⟩ hd_X0_isAsking ⟨Nat.le_of_ble_eq_true rfl, Nat.le_of_ble_eq_true rfl⟩ hK hP rfl rfl rfl hl.1 rfl (Nat.le_of_ble_eq_true rfl) dX0_leave_21 ⟨Nat.le_of_ble_eq_true rfl, Nat.le_of_ble_eq_true rfl⟩ ?_
      refine lv_if_ne (tgt := 29) hx hb dX0_leave_24 (by decide) (fun c24 => ?_) (fun c24 => ?_)
      · have b24 := bI_nz c24
        refine lv_aload_n hx hb dX0_leave_29 rfl (lv_at hl 0 rfl) ?_
        refine va_get (D := (dC, dI)) (ci := 0) (v := .ref a2) (C := RX0) (T := TX0) (N := 7) hx hb hts iwsX0_leave hown hK hP 0 rfl rfl 3 (by decide) (hts (.fieldLink RX0 13 "BranchTimes" "membersTill" "[I") (by decide +kernel)) (fun _ h9 => h9) rfl dX0_leave_30 ?_
        refine lv_iload_n hx hb dX0_leave_33 rfl (lv_at hl 1 rfl) ?_
        refine lv_aload_n hx hb dX0_leave_34 rfl (lv_at hl 0 rfl) ?_
        refine va_get (D := (dC, dI)) (ci := 0) (v := .ref a2) (C := RX0) (T := TX0) (N := 7) hx hb hts iwsX0_leave hown hK hP 0 rfl rfl 3 (by decide) (hts (.fieldLink RX0 13 "BranchTimes" "membersTill" "[I") (by decide +kernel)) (fun _ h9 => h9) rfl dX0_leave_35 ?_
        refine lv_iload_n hx hb dX0_leave_38 rfl (lv_at hl 1 rfl) ?_
        refine va_iald (D := (dC, dI)) hx hb hK hP 2 0 rfl rfl (G_in b4) dX0_leave_39 ?_
        refine lv_aload_n hx hb dX0_leave_40 rfl (lv_at hl 0 rfl) ?_
        refine va_get (D := (dC, dI)) (ci := 0) (v := .int tm) (C := RX0) (T := TX0) (N := 7) hx hb hts iwsX0_leave hown hK hP 0 rfl rfl 1 (by decide) (hts (.fieldLink RX0 38 "BranchTimes" "time" "I") (by decide +kernel)) (fun _ h9 => h9) rfl dX0_leave_41 ?_
        refine lv_iconst (v := 4) hx hb dX0_leave_44 (by decide) ?_
        refine lv_iadd hx hb dX0_leave_45 ?_
        refine va_mmin hx hb (by rw [hml]; exact hl.1.symm) hown (hts (.methodLink RX0 25 Lib.Math.min.name) (by decide +kernel)) (hts (.static Lib.Math.min.name) (by decide +kernel)) (hts (.initialized "java/lang/Math") (by decide +kernel)) (hts (.code Lib.Math.min.name Lib.Math.min.code 2 (some .int)) (by decide +kernel)) (Nat.le_of_ble_eq_true rfl) (Nat.le_of_ble_eq_true rfl) (Nat.le_of_ble_eq_true rfl) (Nat.le_of_ble_eq_true rfl) dX0_leave_46 ?_
        refine lv_top (x' := xMin (fM g.toNatClampNeg) (tm + ((4 : Int32)))) rfl ?_
        refine va_iast (D := (dC, dI)) hx hb hK hP hD hS 2 0 rfl rfl (G_in b4) dX0_leave_49 (fun H locs hP hD hS => ?_)
        have hP : va_P (dC, dI) vwCl (wX h a1 a2 a3 a4 a5 cA me tm fN (upd fM g.toNatClampNeg (xMin (fM g.toNatClampNeg) (tm + ((4 : Int32))))) fJ fT fC) H := hP
        have hD : va_D A (wX h a1 a2 a3 a4 a5 cA me tm fN (upd fM g.toNatClampNeg (xMin (fM g.toNatClampNeg) (tm + ((4 : Int32))))) fJ fT fC) := hD
        refine lv_iconst (v := 1) hx hb dX0_leave_50 (by decide) ?_
        have e3 : xLeM me tm fN fM g = upd fM g.toNatClampNeg (xMin (fM g.toNatClampNeg) (tm + ((4 : Int32)))) := by simp [xLeB, xLeM, bI, b4, b17, b24]
        have hP9 : va_P (dC, dI) vwCl (wX h a1 a2 a3 a4 a5 cA me tm fN (xLeM me tm fN fM g) fJ fT fC) H := by rw [e3]; exact hP
        have er : (1 : Int32) = bI (xLeB me tm fN fM g) := by simp [xLeB, xLeM, bI, b4, b17, b24]
        exact W.zret (v := (1 : Int32)) (ty := .boolean) hx hb hr rfl (fun t ht hW => ⟨⟨_, (), rfl, er, by dsimp only; rw [ht]; exact hP9⟩, by rw [hQ9]; exact hS.F ht⟩) hS.2.2 dX0_leave_51
      · have b24 := bI_z c24
        refine lv_iconst (v := 0) hx hb dX0_leave_27 (by decide) ?_
        have e3 : xLeM me tm fN fM g = fM := by simp [xLeB, xLeM, bI, b4, b17, b24]
        have hP9 : va_P (dC, dI) vwCl (wX h a1 a2 a3 a4 a5 cA me tm fN (xLeM me tm fN fM g) fJ fT fC) s.heap := by rw [e3]; exact hP
        have er : (0 : Int32) = bI (xLeB me tm fN fM g) := by simp [xLeB, xLeM, bI, b4, b17, b24]
        exact W.zret (v := (0 : Int32)) (ty := .boolean) hx hb hr rfl (fun t ht hW => ⟨⟨_, (), rfl, er, by dsimp only; rw [ht]; exact hP9⟩, by rw [hQ9]; exact hS.F ht⟩) hS.2.2 dX0_leave_28
theorem hd_X0_leave : yX0_leave.cls = RX0 ∧ yX0_leave.cls ≠ "java/lang/invoke/MethodHandle" ∧ yX0_leave.cls ≠ "java/lang/invoke/VarHandle" ∧ (parseMethodDescriptor yX0_leave.desc).map (fun d => d.parameters.length) = some 1 := by decide +kernel

theorem iwsX0_tellCuts : ∀ w ∈ u_ws RX0 TX0 7, w ∈ wsX0_tellCuts := fun _ h => List.mem_cons_of_mem _ (List.mem_append_right _ h)
set_option maxHeartbeats 4000000 in
set_option maxRecDepth 100000 in
theorem lp_X0_tellCuts_35 {p : Program} {e : Env} {s : State} {m : MethodId} {args : Array Value} {below : List Frame} {meth : Method} {c : Code} {cells slots : Nat} {Q : State → Prop} {A : Nat → Prop} {H0 : Heap} (l : Launch) (dC : Nat → ClassId) (dI : Nat → Nat → Nat) (h a1 a2 a3 a4 a5 : Nat) (cA : ClassId) (me tm : Int32) (fN fM fJ fT fC : Nat → Int32) (g fr fo y2 y3 : Int32) (hg : xG g = true) (S : CallFix p m c cX0_tellCuts 7 s args wsX0_tellCuts RX0) (hK : va_K (dC, dI) vwCl [(cA, .int)] s) (hAA : ∀ q, H0.size ≤ q → A q) (hcs : cells + 0 ≤ 0 ∧ slots + 0 ≤ 0) (k : ∀ (H : Heap) (locs : List Loc) (ls : Array Slot), va_P (dC, dI) vwCl (wX h a1 a2 a3 a4 a5 cA me tm fN fM fJ fT (xCutsI fC g fr fo 16)) H → va_D A (wX h a1 a2 a3 a4 a5 cA me tm fN fM fJ fT (xCutsI fC g fr fo 16)) → va_S A H0 H locs → lv_has ls 7 [(0, .ref h), (1, .int g), (2, .int y2), (3, .int y3), (4, .int fr), (5, .int fo), (6, .int (nI 16))] → W p l e ({ frames := 4, cells := 0, slots := 0, locals := 83 }) s m args below meth c H locs cells slots Q (F0 m 71 ls [])) : ∀ (n i : Nat), i + n = 16 → ∀ (H : Heap) (locs : List Loc) (ls : Array Slot), va_P (dC, dI) vwCl (wX h a1 a2 a3 a4 a5 cA me tm fN fM fJ fT (xCutsI fC g fr fo i)) H → va_D A (wX h a1 a2 a3 a4 a5 cA me tm fN fM fJ fT (xCutsI fC g fr fo i)) → va_S A H0 H locs → lv_has ls 7 [(0, .ref h), (1, .int g), (2, .int y2), (3, .int y3), (4, .int fr), (5, .int fo), (6, .int (nI i))] → W p l e ({ frames := 4, cells := 0, slots := 0, locals := 83 }) s m args below meth c H locs cells slots Q (F0 m 35 ls []) := by
  obtain ⟨hx, hb, hml, hown, hts⟩ := id S
  intro n
  induction n with
  | zero =>
    intro i hi H locs ls hP hD hS hl
    obtain rfl : i = 16 := by omega
    refine lv_iload hx hb dX0_tellCuts_35 (lv_at hl 6 rfl) ?_
    refine lv_bipush (v := 16) hx hb dX0_tellCuts_37 (by decide) ?_
    refine lv_icmp_ge (tgt := 71) hx hb dX0_tellCuts_39 (by decide) (fun c39 => ?_) (fun c39 => ?_)
    · exact k _ _ ls hP hD hS (lv_sub hl [0, 1, 2, 3, 4, 5, 6] rfl)
    · exact absurd c39 (by decide)
  | succ n ih =>
    intro i hi H locs ls hP hD hS hl
    have hlt : i < 16 := by omega
    have hcl : (nI i).toNatClampNeg = i := nI_clamp (by omega)
    refine lv_iload hx hb dX0_tellCuts_35 (lv_at hl 6 rfl) ?_
    refine lv_bipush (v := 16) hx hb dX0_tellCuts_37 (by decide) ?_
    refine lv_icmp_ge (tgt := 71) hx hb dX0_tellCuts_39 (by decide) (fun c39 => ?_) (fun c39 => ?_)
    · exact absurd c39 (nI_ge hlt (by decide))
    · refine lv_iload hx hb dX0_tellCuts_42 (lv_at hl 4 rfl) ?_
      refine lv_iload hx hb dX0_tellCuts_44 (lv_at hl 6 rfl) ?_
      refine rd_S (As := [.int fr, .int (nI i)]) (rest := []) S (c_X0_hasBit l fr (nI i)) gX0_tellCuts_X0_hasBit rfl ⟨rfl, rfl⟩ hd_X0_hasBit ⟨Nat.le_of_ble_eq_true rfl, Nat.le_of_ble_eq_true rfl⟩ rfl hl.1 rfl (Nat.le_of_ble_eq_true rfl) dX0_tellCuts_46 hcs ?_
      refine lv_if_eq (tgt := 65) hx hb dX0_tellCuts_49 (by decide) (fun c49 => ?_) (fun c49 => ?_)
      · have b49 := bI_z c49
        refine lv_iinc (v := nI (i + 1)) (lv' := [(6, .int (nI (i + 1))), (0, .ref h), (1, .int g), (2, .int y2), (3, .int y3), (4, .int fr), (5, .int fo)]) hx hb dX0_tellCuts_65 hl (k := 6) rfl (nI_1 _) (by decide) rfl (fun ls hl => ?_)
        refine lv_goto (tgt := 35) hx hb dX0_tellCuts_68 (by decide) ?_
        exact ih (i + 1) (by omega) _ _ ls (by rw [xCutsI_f b49]; exact hP) (by rw [xCutsI_f b49]; exact hD) hS (lv_sub hl [1, 2, 3, 4, 5, 6, 0] rfl)
      · have b49 := bI_nz c49
        refine lv_aload_n hx hb dX0_tellCuts_52 rfl (lv_at hl 0 rfl) ?_
        refine va_get (D := (dC, dI)) (ci := 0) (v := .ref a5) (C := RX0) (T := TX0) (N := 7) hx hb hts iwsX0_tellCuts hown hK hP 0 rfl rfl 6 (by decide) (hts (.fieldLink RX0 22 "BranchTimes" "cutFrom" "[I") (by decide +kernel)) (fun _ h9 => h9) rfl dX0_tellCuts_53 ?_
        refine lv_iload_n hx hb dX0_tellCuts_56 rfl (lv_at hl 1 rfl) ?_
        refine lv_iload hx hb dX0_tellCuts_57 (lv_at hl 6 rfl) ?_
        refine rd_S (As := [.int g, .int (nI i)]) (rest := [.ref a5]) S (c_X0_cutPlace l g (nI i)) gX0_tellCuts_X0_cutPlace rfl ⟨rfl, rfl⟩ hd_X0_cutPlace ⟨Nat.le_of_ble_eq_true rfl, Nat.le_of_ble_eq_true rfl⟩ rfl hl.1 rfl (Nat.le_of_ble_eq_true rfl) dX0_tellCuts_59 hcs ?_
        refine lv_iload hx hb dX0_tellCuts_62 (lv_at hl 5 rfl) ?_
        refine va_iast (D := (dC, dI)) hx hb hK hP hD hS 5 0 rfl rfl (Cp_in hg (xSrc_nI hlt)) dX0_tellCuts_64 (fun H locs hP hD hS => ?_)
        have hP : va_P (dC, dI) vwCl (wX h a1 a2 a3 a4 a5 cA me tm fN fM fJ fT (upd (xCutsI fC g fr fo i) (xCp g (nI i)).toNatClampNeg fo)) H := hP
        have hD : va_D A (wX h a1 a2 a3 a4 a5 cA me tm fN fM fJ fT (upd (xCutsI fC g fr fo i) (xCp g (nI i)).toNatClampNeg fo)) := hD
        refine lv_iinc (v := nI (i + 1)) (lv' := [(6, .int (nI (i + 1))), (0, .ref h), (1, .int g), (2, .int y2), (3, .int y3), (4, .int fr), (5, .int fo)]) hx hb dX0_tellCuts_65 hl (k := 6) rfl (nI_1 _) (by decide) rfl (fun ls hl => ?_)
        refine lv_goto (tgt := 35) hx hb dX0_tellCuts_68 (by decide) ?_
        exact ih (i + 1) (by omega) _ _ ls (by rw [xCutsI_t b49]; exact hP) (by rw [xCutsI_t b49]; exact hD) hS (lv_sub hl [1, 2, 3, 4, 5, 6, 0] rfl)
set_option maxHeartbeats 4000000 in
set_option maxRecDepth 100000 in
theorem c_X0_tellCuts (l : Launch) (dC : Nat → ClassId) (dI : Nat → Nat → Nat) (h a1 a2 a3 a4 a5 : Nat) (cA : ClassId) (me tm : Int32) (fN fM fJ fT fC : Nat → Int32) (g bits : Int32) (hg : xG g = true) (sz : Nat) : Met l yX0_tellCuts wsX0_tellCuts ({ frames := 4, cells := 0, slots := 0, locals := 83 }) (PW [.ref h, .int g, .int bits] dC dI cA (wX h a1 a2 a3 a4 a5 cA me tm fN fM fJ fT fC) sz) (QWv dC dI (wX h a1 a2 a3 a4 a5 cA me tm fN fM fJ fT fC) (wX h a1 a2 a3 a4 a5 cA me tm fN fM fJ (upd fT g.toNatClampNeg bits) (xTellC tm fN fJ fT fC g bits)) sz) 0 0 (va_A (wX h a1 a2 a3 a4 a5 cA me tm fN fM fJ fT fC) sz) := by
  refine Met.ofW (cc := cX0_tellCuts) (maxL := 7) (ret := none) (by decide) rfl ?_
  intro p e s m args below meth c s₁ B hml hv
  obtain ⟨rfl, hsz, hP, hK, hD0⟩ := hv
  have hx := B.exec
  have hb := B.bytes
  have hr := B.returns
  have hts := atoms_spec (ws := wsX0_tellCuts) B.pre
  have hown : s.vm.findClass RX0 = some m.cls := findClass_of_methodNamed B.named
  have hlocks := B.notSynchronized
  have S : CallFix p m c cX0_tellCuts 7 s ([.ref h, .int g, .int bits] : List Value).toArray wsX0_tellCuts RX0 := ⟨hx, hb, hml, hown, hts⟩
  subst hsz
  have hD := hD0.self (sz := s.heap.size)
  generalize hAe : va_A (wX h a1 a2 a3 a4 a5 cA me tm fN fM fJ fT fC) s.heap.size = A at hD ⊢
  have hAA : ∀ q : Nat, s.heap.size ≤ q → A q := fun q h => by rw [← hAe]; exact Or.inr h
  have hS : va_S A s.heap s.heap [] := va_S.rf
  have hQ9 := hAe
  have hl := lv_entry ([.ref h, .int g, .int bits]) (n := 7) (Nat.le_of_ble_eq_true rfl)
  rw [lg_entry_eq]
  generalize (lg_sl ([.ref h, .int g, .int bits]) ++ List.replicate (7 - (lg_sl ([.ref h, .int g, .int bits])).length) Slot.unset).toArray = ls at hl ⊢
  have hl : lv_has ls 7 [(0, .ref h), (1, .int g), (2, .int bits)] := hl
  refine lv_aload_n hx hb dX0_tellCuts_0 rfl (lv_at hl 0 rfl) ?_
  refine lv_iload_n hx hb dX0_tellCuts_1 rfl (lv_at hl 1 rfl) ?_
  refine rd_V (As := [.int g]) (rest := []) (ci := 0) (qc := (RX0, TX0, 7)) S (c_X0_isJoinedForStar l dC dI h a1 a2 a3 a4 a5 cA me tm fN fM fJ fT fC g hg) gX0_tellCuts_X0_isJoinedForStar rfl ⟨rfl, rfl⟩ hd_X0_isJoinedForStar ⟨Nat.le_of_ble_eq_true rfl, Nat.le_of_ble_eq_true rfl⟩ hK hP rfl rfl rfl hl.1 rfl (Nat.le_of_ble_eq_true rfl) dX0_tellCuts_2 ⟨Nat.le_of_ble_eq_true rfl, Nat.le_of_ble_eq_true rfl⟩ ?_
  refine lv_if_eq (tgt := 17) hx hb dX0_tellCuts_5 (by decide) (fun c5 => ?_) (fun c5 => ?_)
  · have b5 := bI_z c5
    refine lv_iconst (v := 0) hx hb dX0_tellCuts_17 (by decide) ?_
    refine lv_top (x' := xBefore tm fJ fT g) (by simp [xBefore, b5]) ?_
    refine lv_istore_n (lv' := [(3, .int (xBefore tm fJ fT g)), (0, .ref h), (1, .int g), (2, .int bits)]) hx hb dX0_tellCuts_18 rfl hl (by decide) rfl (fun ls hl => ?_)
    refine lv_iload_n hx hb dX0_tellCuts_19 rfl (lv_at hl 3 rfl) ?_
    refine lv_iload_n hx hb dX0_tellCuts_20 rfl (lv_at hl 0 rfl) ?_
    refine lv_iconst (v := -1) hx hb dX0_tellCuts_21 (by decide) ?_
    refine lv_ixor hx hb dX0_tellCuts_22 ?_
    refine lv_iand hx hb dX0_tellCuts_23 ?_
    refine lv_istore (lv' := [(4, .int (bits &&& ((xBefore tm fJ fT g) ^^^ ((-1 : Int32))))), (3, .int (xBefore tm fJ fT g)), (0, .ref h), (1, .int g), (2, .int bits)]) hx hb dX0_tellCuts_24 hl (by decide) rfl (fun ls hl => ?_)
    refine lv_aload_n hx hb dX0_tellCuts_26 rfl (lv_at hl 2 rfl) ?_
    refine rd_V (As := []) (rest := []) (ci := 0) (qc := (RX0, TX0, 7)) S (c_X0_timeOfEffect l dC dI h a1 a2 a3 a4 a5 cA me tm fN fM fJ fT fC) gX0_tellCuts_X0_timeOfEffect rfl ⟨rfl, rfl⟩ hd_X0_timeOfEffect ⟨Nat.le_of_ble_eq_true rfl, Nat.le_of_ble_eq_true rfl⟩ hK hP rfl rfl rfl hl.1 rfl (Nat.le_of_ble_eq_true rfl) dX0_tellCuts_27 ⟨Nat.le_of_ble_eq_true rfl, Nat.le_of_ble_eq_true rfl⟩ ?_
    refine lv_istore (lv' := [(5, .int (xEff tm (xNb tm fN))), (4, .int (bits &&& ((xBefore tm fJ fT g) ^^^ ((-1 : Int32))))), (3, .int (xBefore tm fJ fT g)), (0, .ref h), (1, .int g), (2, .int bits)]) hx hb dX0_tellCuts_30 hl (by decide) rfl (fun ls hl => ?_)
    refine lv_iconst (v := 0) hx hb dX0_tellCuts_32 (by decide) ?_
    refine lv_istore (lv' := [(6, .int ((0 : Int32))), (5, .int (xEff tm (xNb tm fN))), (4, .int (bits &&& ((xBefore tm fJ fT g) ^^^ ((-1 : Int32))))), (3, .int (xBefore tm fJ fT g)), (0, .ref h), (1, .int g), (2, .int bits)]) hx hb dX0_tellCuts_33 hl (by decide) rfl (fun ls hl => ?_)
    refine lp_X0_tellCuts_35 l dC dI h a1 a2 a3 a4 a5 cA me tm fN fM fJ fT fC g (bits &&& ((xBefore tm fJ fT g) ^^^ ((-1 : Int32)))) (xEff tm (xNb tm fN)) bits (xBefore tm fJ fT g) hg S hK hAA ⟨Nat.le_of_ble_eq_true rfl, Nat.le_of_ble_eq_true rfl⟩ (fun H locs ls hP hD hS hl => ?_) 16 0 rfl _ _ ls hP hD hS (lv_sub hl [4, 5, 6, 3, 2, 1, 0] rfl)
    refine lv_aload_n hx hb dX0_tellCuts_71 rfl (lv_at hl 0 rfl) ?_
    refine va_get (D := (dC, dI)) (ci := 0) (v := .ref a4) (C := RX0) (T := TX0) (N := 7) hx hb hts iwsX0_tellCuts hown hK hP 0 rfl rfl 5 (by decide) (hts (.fieldLink RX0 19 "BranchTimes" "told" "[I") (by decide +kernel)) (fun _ h9 => h9) rfl dX0_tellCuts_72 ?_
    refine lv_iload_n hx hb dX0_tellCuts_75 rfl (lv_at hl 1 rfl) ?_
    refine lv_iload_n hx hb dX0_tellCuts_76 rfl (lv_at hl 2 rfl) ?_
    refine va_iast (D := (dC, dI)) hx hb hK hP hD hS 4 0 rfl rfl (G_in hg) dX0_tellCuts_77 (fun H locs hP hD hS => ?_)
    have hP : va_P (dC, dI) vwCl (wX h a1 a2 a3 a4 a5 cA me tm fN fM fJ (upd fT g.toNatClampNeg bits) (xCutsI fC g (bits &&& ((xBefore tm fJ fT g) ^^^ ((-1 : Int32)))) (xEff tm (xNb tm fN)) 16)) H := hP
    have hD : va_D A (wX h a1 a2 a3 a4 a5 cA me tm fN fM fJ (upd fT g.toNatClampNeg bits) (xCutsI fC g (bits &&& ((xBefore tm fJ fT g) ^^^ ((-1 : Int32)))) (xEff tm (xNb tm fN)) 16)) := hD
    have e6 : xTellC tm fN fJ fT fC g bits = xCutsI fC g (bits &&& ((xBefore tm fJ fT g) ^^^ ((-1 : Int32)))) (xEff tm (xNb tm fN)) 16 := rfl
    have hP9 : va_P (dC, dI) vwCl (wX h a1 a2 a3 a4 a5 cA me tm fN fM fJ (upd fT g.toNatClampNeg bits) (xTellC tm fN fJ fT fC g bits)) H := by rw [e6]; exact hP
    exact W.vret hx hb hr (fun t ht hW => ⟨⟨(), rfl, trivial, by dsimp only; rw [ht]; exact hP9⟩, by rw [hQ9]; exact hS.F ht⟩) hS.2.2 dX0_tellCuts_78
  · have b5 := bI_nz c5
    refine lv_aload_n hx hb dX0_tellCuts_8 rfl (lv_at hl 0 rfl) ?_
    refine va_get (D := (dC, dI)) (ci := 0) (v := .ref a4) (C := RX0) (T := TX0) (N := 7) hx hb hts iwsX0_tellCuts hown hK hP 0 rfl rfl 5 (by decide) (hts (.fieldLink RX0 19 "BranchTimes" "told" "[I") (by decide +kernel)) (fun _ h9 => h9) rfl dX0_tellCuts_9 ?_
    refine lv_iload_n hx hb dX0_tellCuts_12 rfl (lv_at hl 1 rfl) ?_
    refine va_iald (D := (dC, dI)) hx hb hK hP 4 0 rfl rfl (G_in hg) dX0_tellCuts_13 ?_
    refine lv_goto (tgt := 18) hx hb dX0_tellCuts_14 (by decide) ?_
    refine lv_top (x' := xBefore tm fJ fT g) (by simp [xBefore, b5]) ?_
    refine lv_istore_n (lv' := [(3, .int (xBefore tm fJ fT g)), (0, .ref h), (1, .int g), (2, .int bits)]) hx hb dX0_tellCuts_18 rfl hl (by decide) rfl (fun ls hl => ?_)
    refine lv_iload_n hx hb dX0_tellCuts_19 rfl (lv_at hl 3 rfl) ?_
    refine lv_iload_n hx hb dX0_tellCuts_20 rfl (lv_at hl 0 rfl) ?_
    refine lv_iconst (v := -1) hx hb dX0_tellCuts_21 (by decide) ?_
    refine lv_ixor hx hb dX0_tellCuts_22 ?_
    refine lv_iand hx hb dX0_tellCuts_23 ?_
    refine lv_istore (lv' := [(4, .int (bits &&& ((xBefore tm fJ fT g) ^^^ ((-1 : Int32))))), (3, .int (xBefore tm fJ fT g)), (0, .ref h), (1, .int g), (2, .int bits)]) hx hb dX0_tellCuts_24 hl (by decide) rfl (fun ls hl => ?_)
    refine lv_aload_n hx hb dX0_tellCuts_26 rfl (lv_at hl 2 rfl) ?_
    refine rd_V (As := []) (rest := []) (ci := 0) (qc := (RX0, TX0, 7)) S (c_X0_timeOfEffect l dC dI h a1 a2 a3 a4 a5 cA me tm fN fM fJ fT fC) gX0_tellCuts_X0_timeOfEffect rfl ⟨rfl, rfl⟩ hd_X0_timeOfEffect ⟨Nat.le_of_ble_eq_true rfl, Nat.le_of_ble_eq_true rfl⟩ hK hP rfl rfl rfl hl.1 rfl (Nat.le_of_ble_eq_true rfl) dX0_tellCuts_27 ⟨Nat.le_of_ble_eq_true rfl, Nat.le_of_ble_eq_true rfl⟩ ?_
    refine lv_istore (lv' := [(5, .int (xEff tm (xNb tm fN))), (4, .int (bits &&& ((xBefore tm fJ fT g) ^^^ ((-1 : Int32))))), (3, .int (xBefore tm fJ fT g)), (0, .ref h), (1, .int g), (2, .int bits)]) hx hb dX0_tellCuts_30 hl (by decide) rfl (fun ls hl => ?_)
    refine lv_iconst (v := 0) hx hb dX0_tellCuts_32 (by decide) ?_
    refine lv_istore (lv' := [(6, .int ((0 : Int32))), (5, .int (xEff tm (xNb tm fN))), (4, .int (bits &&& ((xBefore tm fJ fT g) ^^^ ((-1 : Int32))))), (3, .int (xBefore tm fJ fT g)), (0, .ref h), (1, .int g), (2, .int bits)]) hx hb dX0_tellCuts_33 hl (by decide) rfl (fun ls hl => ?_)
    refine lp_X0_tellCuts_35 l dC dI h a1 a2 a3 a4 a5 cA me tm fN fM fJ fT fC g (bits &&& ((xBefore tm fJ fT g) ^^^ ((-1 : Int32)))) (xEff tm (xNb tm fN)) bits (xBefore tm fJ fT g) hg S hK hAA ⟨Nat.le_of_ble_eq_true rfl, Nat.le_of_ble_eq_true rfl⟩ (fun H locs ls hP hD hS hl => ?_) 16 0 rfl _ _ ls hP hD hS (lv_sub hl [4, 5, 6, 3, 2, 1, 0] rfl)
    refine lv_aload_n hx hb dX0_tellCuts_71 rfl (lv_at hl 0 rfl) ?_
    refine va_get (D := (dC, dI)) (ci := 0) (v := .ref a4) (C := RX0) (T := TX0) (N := 7) hx hb hts iwsX0_tellCuts hown hK hP 0 rfl rfl 5 (by decide) (hts (.fieldLink RX0 19 "BranchTimes" "told" "[I") (by decide +kernel)) (fun _ h9 => h9) rfl dX0_tellCuts_72 ?_
    refine lv_iload_n hx hb dX0_tellCuts_75 rfl (lv_at hl 1 rfl) ?_
    refine lv_iload_n hx hb dX0_tellCuts_76 rfl (lv_at hl 2 rfl) ?_
    refine va_iast (D := (dC, dI)) hx hb hK hP hD hS 4 0 rfl rfl (G_in hg) dX0_tellCuts_77 (fun H locs hP hD hS => ?_)
    have hP : va_P (dC, dI) vwCl (wX h a1 a2 a3 a4 a5 cA me tm fN fM fJ (upd fT g.toNatClampNeg bits) (xCutsI fC g (bits &&& ((xBefore tm fJ fT g) ^^^ ((-1 : Int32)))) (xEff tm (xNb tm fN)) 16)) H := hP
    have hD : va_D A (wX h a1 a2 a3 a4 a5 cA me tm fN fM fJ (upd fT g.toNatClampNeg bits) (xCutsI fC g (bits &&& ((xBefore tm fJ fT g) ^^^ ((-1 : Int32)))) (xEff tm (xNb tm fN)) 16)) := hD
    have e6 : xTellC tm fN fJ fT fC g bits = xCutsI fC g (bits &&& ((xBefore tm fJ fT g) ^^^ ((-1 : Int32)))) (xEff tm (xNb tm fN)) 16 := rfl
    have hP9 : va_P (dC, dI) vwCl (wX h a1 a2 a3 a4 a5 cA me tm fN fM fJ (upd fT g.toNatClampNeg bits) (xTellC tm fN fJ fT fC g bits)) H := by rw [e6]; exact hP
    exact W.vret hx hb hr (fun t ht hW => ⟨⟨(), rfl, trivial, by dsimp only; rw [ht]; exact hP9⟩, by rw [hQ9]; exact hS.F ht⟩) hS.2.2 dX0_tellCuts_78
theorem hd_X0_tellCuts : yX0_tellCuts.cls = RX0 ∧ yX0_tellCuts.cls ≠ "java/lang/invoke/MethodHandle" ∧ yX0_tellCuts.cls ≠ "java/lang/invoke/VarHandle" ∧ (parseMethodDescriptor yX0_tellCuts.desc).map (fun d => d.parameters.length) = some 2 := by decide +kernel

theorem iwsX0_join : ∀ w ∈ u_ws RX0 TX0 7, w ∈ wsX0_join := fun _ h => List.mem_cons_of_mem _ (List.mem_append_right _ h)
set_option maxHeartbeats 4000000 in
set_option maxRecDepth 100000 in
theorem c_X0_join (l : Launch) (dC : Nat → ClassId) (dI : Nat → Nat → Nat) (h a1 a2 a3 a4 a5 : Nat) (cA : ClassId) (me tm : Int32) (fN fM fJ fT fC : Nat → Int32) (g q bits : Int32) (sz : Nat) : Met l yX0_join wsX0_join ({ frames := 5, cells := 0, slots := 0, locals := 109 }) (PW [.ref h, .int g, .int q, .int bits] dC dI cA (wX h a1 a2 a3 a4 a5 cA me tm fN fM fJ fT fC) sz) (QWi dC dI (bI (xJoB g q)) (wX h a1 a2 a3 a4 a5 cA me tm fN fM fJ fT fC) (wX h a1 a2 a3 a4 a5 cA me tm fN fM (xJoJ tm fJ g q) (xJoT fT g q bits) (xJoC tm fN fJ fT fC g q bits)) sz) 0 0 (va_A (wX h a1 a2 a3 a4 a5 cA me tm fN fM fJ fT fC) sz) := by
  refine Met.ofW (cc := cX0_join) (maxL := 4) (ret := some .boolean) (by decide) rfl ?_
  intro p e s m args below meth c s₁ B hml hv
  obtain ⟨rfl, hsz, hP, hK, hD0⟩ := hv
  have hx := B.exec
  have hb := B.bytes
  have hr := B.returns
  have hts := atoms_spec (ws := wsX0_join) B.pre
  have hown : s.vm.findClass RX0 = some m.cls := findClass_of_methodNamed B.named
  have hlocks := B.notSynchronized
  have S : CallFix p m c cX0_join 4 s ([.ref h, .int g, .int q, .int bits] : List Value).toArray wsX0_join RX0 := ⟨hx, hb, hml, hown, hts⟩
  subst hsz
  have hD := hD0.self (sz := s.heap.size)
  generalize hAe : va_A (wX h a1 a2 a3 a4 a5 cA me tm fN fM fJ fT fC) s.heap.size = A at hD ⊢
  have hAA : ∀ q : Nat, s.heap.size ≤ q → A q := fun q h => by rw [← hAe]; exact Or.inr h
  have hS : va_S A s.heap s.heap [] := va_S.rf
  have hQ9 := hAe
  have hl := lv_entry ([.ref h, .int g, .int q, .int bits]) (n := 4) (Nat.le_of_ble_eq_true rfl)
  rw [lg_entry_eq]
  generalize (lg_sl ([.ref h, .int g, .int q, .int bits]) ++ List.replicate (4 - (lg_sl ([.ref h, .int g, .int q, .int bits])).length) Slot.unset).toArray = ls at hl ⊢
  have hl : lv_has ls 4 [(0, .ref h), (1, .int g), (2, .int q), (3, .int bits)] := hl
  refine lv_iload_n hx hb dX0_join_0 rfl (lv_at hl 1 rfl) ?_
  refine rd_S (As := [.int g]) (rest := []) S (c_X0_isGroup l g) gX0_join_X0_isGroup rfl ⟨rfl, rfl⟩ hd_X0_isGroup ⟨Nat.le_of_ble_eq_true rfl, Nat.le_of_ble_eq_true rfl⟩ rfl hl.1 rfl (Nat.le_of_ble_eq_true rfl) dX0_join_1 ⟨Nat.le_of_ble_eq_true rfl, Nat.le_of_ble_eq_true rfl⟩ ?_
  refine lv_if_eq (tgt := 14) hx hb dX0_join_4 (by decide) (fun c4 => ?_) (fun c4 => ?_)
  · have b4 := bI_z c4
    refine lv_iconst (v := 0) hx hb dX0_join_14 (by decide) ?_
    have e4 : xJoJ tm fJ g q = fJ := by simp [xJoB, xJoJ, xJoT, xJoC, xJoS, bI, xBr_m1, b4]
    have e5 : xJoT fT g q bits = fT := by simp [xJoB, xJoJ, xJoT, xJoC, xJoS, bI, xBr_m1, b4]
    have e6 : xJoC tm fN fJ fT fC g q bits = fC := by simp [xJoB, xJoJ, xJoT, xJoC, xJoS, bI, xBr_m1, b4]
    have hP9 : va_P (dC, dI) vwCl (wX h a1 a2 a3 a4 a5 cA me tm fN fM (xJoJ tm fJ g q) (xJoT fT g q bits) (xJoC tm fN fJ fT fC g q bits)) s.heap := by rw [e4, e5, e6]; exact hP
    have er : (0 : Int32) = bI (xJoB g q) := by simp [xJoB, xJoJ, xJoT, xJoC, xJoS, bI, xBr_m1, b4]
    exact W.zret (v := (0 : Int32)) (ty := .boolean) hx hb hr rfl (fun t ht hW => ⟨⟨_, (), rfl, er, by dsimp only; rw [ht]; exact hP9⟩, by rw [hQ9]; exact hS.F ht⟩) hS.2.2 dX0_join_15
  · have b4 := bI_nz c4
    refine lv_iload_n hx hb dX0_join_7 rfl (lv_at hl 2 rfl) ?_
    refine rd_S (As := [.int q]) (rest := []) S (c_X0_isBranch l q) gX0_join_X0_isBranch rfl ⟨rfl, rfl⟩ hd_X0_isBranch ⟨Nat.le_of_ble_eq_true rfl, Nat.le_of_ble_eq_true rfl⟩ rfl hl.1 rfl (Nat.le_of_ble_eq_true rfl) dX0_join_8 ⟨Nat.le_of_ble_eq_true rfl, Nat.le_of_ble_eq_true rfl⟩ ?_
    refine lv_if_ne (tgt := 16) hx hb dX0_join_11 (by decide) (fun c11 => ?_) (fun c11 => ?_)
    · have b11 := bI_nz c11
      refine lv_iload_n hx hb dX0_join_16 rfl (lv_at hl 2 rfl) ?_
      refine lv_iconst (v := -1) hx hb dX0_join_17 (by decide) ?_
      refine lv_icmp_ne (tgt := 30) hx hb dX0_join_18 (by decide) (fun c18 => ?_) (fun c18 => ?_)
      · refine lv_aload_n hx hb dX0_join_30 rfl (lv_at hl 0 rfl) ?_
        refine va_get (D := (dC, dI)) (ci := 0) (v := .ref a3) (C := RX0) (T := TX0) (N := 7) hx hb hts iwsX0_join hown hK hP 0 rfl rfl 4 (by decide) (hts (.fieldLink RX0 16 "BranchTimes" "joinedTill" "[I") (by decide +kernel)) (fun _ h9 => h9) rfl dX0_join_31 ?_
        refine lv_iload_n hx hb dX0_join_34 rfl (lv_at hl 1 rfl) ?_
        refine lv_iload_n hx hb dX0_join_35 rfl (lv_at hl 2 rfl) ?_
        refine rd_S (As := [.int g, .int q]) (rest := [.ref a3]) S (c_X0_branchPlace l g q) gX0_join_X0_branchPlace rfl ⟨rfl, rfl⟩ hd_X0_branchPlace ⟨Nat.le_of_ble_eq_true rfl, Nat.le_of_ble_eq_true rfl⟩ rfl hl.1 rfl (Nat.le_of_ble_eq_true rfl) dX0_join_36 ⟨Nat.le_of_ble_eq_true rfl, Nat.le_of_ble_eq_true rfl⟩ ?_
        refine lv_aload_n hx hb dX0_join_39 rfl (lv_at hl 0 rfl) ?_
        refine va_get (D := (dC, dI)) (ci := 0) (v := .int tm) (C := RX0) (T := TX0) (N := 7) hx hb hts iwsX0_join hown hK hP 0 rfl rfl 1 (by decide) (hts (.fieldLink RX0 38 "BranchTimes" "time" "I") (by decide +kernel)) (fun _ h9 => h9) rfl dX0_join_40 ?_
        refine lv_bipush (v := 70) hx hb dX0_join_43 (by decide) ?_
        refine lv_iadd hx hb dX0_join_45 ?_
        refine va_iast (D := (dC, dI)) hx hb hK hP hD hS 3 0 rfl rfl (Pl_in b4 b11) dX0_join_46 (fun H locs hP hD hS => ?_)
        have hP : va_P (dC, dI) vwCl (wX h a1 a2 a3 a4 a5 cA me tm fN fM (upd fJ (xPl g q).toNatClampNeg (tm + ((70 : Int32)))) fT fC) H := hP
        have hD : va_D A (wX h a1 a2 a3 a4 a5 cA me tm fN fM (upd fJ (xPl g q).toNatClampNeg (tm + ((70 : Int32)))) fT fC) := hD
        refine lv_iconst (v := 1) hx hb dX0_join_47 (by decide) ?_
        have e4 : xJoJ tm fJ g q = upd fJ (xPl g q).toNatClampNeg (tm + ((70 : Int32))) := by simp [xJoB, xJoJ, xJoT, xJoC, xJoS, bI, xBr_m1, b4, b11, c18]
        have e5 : xJoT fT g q bits = fT := by simp [xJoB, xJoJ, xJoT, xJoC, xJoS, bI, xBr_m1, b4, b11, c18]
        have e6 : xJoC tm fN fJ fT fC g q bits = fC := by simp [xJoB, xJoJ, xJoT, xJoC, xJoS, bI, xBr_m1, b4, b11, c18]
        have hP9 : va_P (dC, dI) vwCl (wX h a1 a2 a3 a4 a5 cA me tm fN fM (xJoJ tm fJ g q) (xJoT fT g q bits) (xJoC tm fN fJ fT fC g q bits)) H := by rw [e4, e5, e6]; exact hP
        have er : (1 : Int32) = bI (xJoB g q) := by simp [xJoB, xJoJ, xJoT, xJoC, xJoS, bI, xBr_m1, b4, b11, c18]
        exact W.zret (v := (1 : Int32)) (ty := .boolean) hx hb hr rfl (fun t ht hW => ⟨⟨_, (), rfl, er, by dsimp only; rw [ht]; exact hP9⟩, by rw [hQ9]; exact hS.F ht⟩) hS.2.2 dX0_join_48
      · refine lv_aload_n hx hb dX0_join_21 rfl (lv_at hl 0 rfl) ?_
        refine lv_iload_n hx hb dX0_join_22 rfl (lv_at hl 1 rfl) ?_
        refine lv_iload_n hx hb dX0_join_23 rfl (lv_at hl 3 rfl) ?_
        refine lv_ldc (v := 65535) hx hb hown (hts (.constant RX0 56 (65535)) (by decide +kernel)) dX0_join_24 ?_
        refine lv_iand hx hb dX0_join_26 ?_
        refine wr_Vv (As := [.int g, .int (bits &&& ((65535 : Int32)))]) (rest := []) (ci := 0) (qc := (RX0, TX0, 7)) (wr := []) (A0 := A) S (c_X0_tellCuts l dC dI h a1 a2 a3 a4 a5 cA me tm fN fM fJ fT fC g (bits &&& ((65535 : Int32))) b4 _) gX0_join_X0_tellCuts rfl ⟨rfl, rfl⟩ hd_X0_tellCuts ⟨Nat.le_of_ble_eq_true rfl, Nat.le_of_ble_eq_true rfl⟩ hK hP hD hS hAA [0, 1, 2, 3, 4, 5] [] rfl rfl (by decide) (by decide) (by decide) rfl rfl rfl rfl hl.1 rfl (Nat.le_of_ble_eq_true rfl) dX0_join_27 ⟨Nat.le_of_ble_eq_true rfl, Nat.le_of_ble_eq_true rfl⟩ (fun H locs hP hD hS => ?_)
        have hP : va_P (dC, dI) vwCl (wX h a1 a2 a3 a4 a5 cA me tm fN fM fJ (upd fT g.toNatClampNeg (bits &&& ((65535 : Int32)))) (xTellC tm fN fJ fT fC g (bits &&& ((65535 : Int32))))) H := hP
        have hD : va_D A (wX h a1 a2 a3 a4 a5 cA me tm fN fM fJ (upd fT g.toNatClampNeg (bits &&& ((65535 : Int32)))) (xTellC tm fN fJ fT fC g (bits &&& ((65535 : Int32))))) := hD
        refine lv_aload_n hx hb dX0_join_30 rfl (lv_at hl 0 rfl) ?_
        refine va_get (D := (dC, dI)) (ci := 0) (v := .ref a3) (C := RX0) (T := TX0) (N := 7) hx hb hts iwsX0_join hown hK hP 0 rfl rfl 4 (by decide) (hts (.fieldLink RX0 16 "BranchTimes" "joinedTill" "[I") (by decide +kernel)) (fun _ h9 => h9) rfl dX0_join_31 ?_
        refine lv_iload_n hx hb dX0_join_34 rfl (lv_at hl 1 rfl) ?_
        refine lv_iload_n hx hb dX0_join_35 rfl (lv_at hl 2 rfl) ?_
        refine rd_S (As := [.int g, .int q]) (rest := [.ref a3]) S (c_X0_branchPlace l g q) gX0_join_X0_branchPlace rfl ⟨rfl, rfl⟩ hd_X0_branchPlace ⟨Nat.le_of_ble_eq_true rfl, Nat.le_of_ble_eq_true rfl⟩ rfl hl.1 rfl (Nat.le_of_ble_eq_true rfl) dX0_join_36 ⟨Nat.le_of_ble_eq_true rfl, Nat.le_of_ble_eq_true rfl⟩ ?_
        refine lv_aload_n hx hb dX0_join_39 rfl (lv_at hl 0 rfl) ?_
        refine va_get (D := (dC, dI)) (ci := 0) (v := .int tm) (C := RX0) (T := TX0) (N := 7) hx hb hts iwsX0_join hown hK hP 0 rfl rfl 1 (by decide) (hts (.fieldLink RX0 38 "BranchTimes" "time" "I") (by decide +kernel)) (fun _ h9 => h9) rfl dX0_join_40 ?_
        refine lv_bipush (v := 70) hx hb dX0_join_43 (by decide) ?_
        refine lv_iadd hx hb dX0_join_45 ?_
        refine va_iast (D := (dC, dI)) hx hb hK hP hD hS 3 0 rfl rfl (Pl_in b4 b11) dX0_join_46 (fun H locs hP hD hS => ?_)
        have hP : va_P (dC, dI) vwCl (wX h a1 a2 a3 a4 a5 cA me tm fN fM (upd fJ (xPl g q).toNatClampNeg (tm + ((70 : Int32)))) (upd fT g.toNatClampNeg (bits &&& ((65535 : Int32)))) (xTellC tm fN fJ fT fC g (bits &&& ((65535 : Int32))))) H := hP
        have hD : va_D A (wX h a1 a2 a3 a4 a5 cA me tm fN fM (upd fJ (xPl g q).toNatClampNeg (tm + ((70 : Int32)))) (upd fT g.toNatClampNeg (bits &&& ((65535 : Int32)))) (xTellC tm fN fJ fT fC g (bits &&& ((65535 : Int32))))) := hD
        refine lv_iconst (v := 1) hx hb dX0_join_47 (by decide) ?_
        have e4 : xJoJ tm fJ g q = upd fJ (xPl g q).toNatClampNeg (tm + ((70 : Int32))) := by simp [xJoB, xJoJ, xJoT, xJoC, xJoS, bI, xBr_m1, b4, b11, c18]
        have e5 : xJoT fT g q bits = upd fT g.toNatClampNeg (bits &&& ((65535 : Int32))) := by simp [xJoB, xJoJ, xJoT, xJoC, xJoS, bI, xBr_m1, b4, b11, c18]
        have e6 : xJoC tm fN fJ fT fC g q bits = xTellC tm fN fJ fT fC g (bits &&& ((65535 : Int32))) := by simp [xJoB, xJoJ, xJoT, xJoC, xJoS, bI, xBr_m1, b4, b11, c18]
        have hP9 : va_P (dC, dI) vwCl (wX h a1 a2 a3 a4 a5 cA me tm fN fM (xJoJ tm fJ g q) (xJoT fT g q bits) (xJoC tm fN fJ fT fC g q bits)) H := by rw [e4, e5, e6]; exact hP
        have er : (1 : Int32) = bI (xJoB g q) := by simp [xJoB, xJoJ, xJoT, xJoC, xJoS, bI, xBr_m1, b4, b11, c18]
        exact W.zret (v := (1 : Int32)) (ty := .boolean) hx hb hr rfl (fun t ht hW => ⟨⟨_, (), rfl, er, by dsimp only; rw [ht]; exact hP9⟩, by rw [hQ9]; exact hS.F ht⟩) hS.2.2 dX0_join_48
    · have b11 := bI_z c11
      refine lv_iconst (v := 0) hx hb dX0_join_14 (by decide) ?_
      have e4 : xJoJ tm fJ g q = fJ := by simp [xJoB, xJoJ, xJoT, xJoC, xJoS, bI, xBr_m1, b4, b11]
      have e5 : xJoT fT g q bits = fT := by simp [xJoB, xJoJ, xJoT, xJoC, xJoS, bI, xBr_m1, b4, b11]
      have e6 : xJoC tm fN fJ fT fC g q bits = fC := by simp [xJoB, xJoJ, xJoT, xJoC, xJoS, bI, xBr_m1, b4, b11]
      have hP9 : va_P (dC, dI) vwCl (wX h a1 a2 a3 a4 a5 cA me tm fN fM (xJoJ tm fJ g q) (xJoT fT g q bits) (xJoC tm fN fJ fT fC g q bits)) s.heap := by rw [e4, e5, e6]; exact hP
      have er : (0 : Int32) = bI (xJoB g q) := by simp [xJoB, xJoJ, xJoT, xJoC, xJoS, bI, xBr_m1, b4, b11]
      exact W.zret (v := (0 : Int32)) (ty := .boolean) hx hb hr rfl (fun t ht hW => ⟨⟨_, (), rfl, er, by dsimp only; rw [ht]; exact hP9⟩, by rw [hQ9]; exact hS.F ht⟩) hS.2.2 dX0_join_15
theorem hd_X0_join : yX0_join.cls = RX0 ∧ yX0_join.cls ≠ "java/lang/invoke/MethodHandle" ∧ yX0_join.cls ≠ "java/lang/invoke/VarHandle" ∧ (parseMethodDescriptor yX0_join.desc).map (fun d => d.parameters.length) = some 3 := by decide +kernel

theorem iwsX0_prune : ∀ w ∈ u_ws RX0 TX0 7, w ∈ wsX0_prune := fun _ h => List.mem_cons_of_mem _ (List.mem_append_right _ h)
set_option maxHeartbeats 4000000 in
set_option maxRecDepth 100000 in
theorem c_X0_prune (l : Launch) (dC : Nat → ClassId) (dI : Nat → Nat → Nat) (h a1 a2 a3 a4 a5 : Nat) (cA : ClassId) (me tm : Int32) (fN fM fJ fT fC : Nat → Int32) (g q : Int32) (sz : Nat) : Met l yX0_prune wsX0_prune ({ frames := 4, cells := 0, slots := 0, locals := 83 }) (PW [.ref h, .int g, .int q] dC dI cA (wX h a1 a2 a3 a4 a5 cA me tm fN fM fJ fT fC) sz) (QWi dC dI (bI (xPrB tm fJ g q)) (wX h a1 a2 a3 a4 a5 cA me tm fN fM fJ fT fC) (wX h a1 a2 a3 a4 a5 cA me tm fN fM (xPrJ tm fN fJ g q) fT fC) sz) 0 0 (va_A (wX h a1 a2 a3 a4 a5 cA me tm fN fM fJ fT fC) sz) := by
  refine Met.ofW (cc := cX0_prune) (maxL := 4) (ret := some .boolean) (by decide) rfl ?_
  intro p e s m args below meth c s₁ B hml hv
  obtain ⟨rfl, hsz, hP, hK, hD0⟩ := hv
  have hx := B.exec
  have hb := B.bytes
  have hr := B.returns
  have hts := atoms_spec (ws := wsX0_prune) B.pre
  have hown : s.vm.findClass RX0 = some m.cls := findClass_of_methodNamed B.named
  have hlocks := B.notSynchronized
  have S : CallFix p m c cX0_prune 4 s ([.ref h, .int g, .int q] : List Value).toArray wsX0_prune RX0 := ⟨hx, hb, hml, hown, hts⟩
  subst hsz
  have hD := hD0.self (sz := s.heap.size)
  generalize hAe : va_A (wX h a1 a2 a3 a4 a5 cA me tm fN fM fJ fT fC) s.heap.size = A at hD ⊢
  have hAA : ∀ q : Nat, s.heap.size ≤ q → A q := fun q h => by rw [← hAe]; exact Or.inr h
  have hS : va_S A s.heap s.heap [] := va_S.rf
  have hQ9 := hAe
  have hl := lv_entry ([.ref h, .int g, .int q]) (n := 4) (Nat.le_of_ble_eq_true rfl)
  rw [lg_entry_eq]
  generalize (lg_sl ([.ref h, .int g, .int q]) ++ List.replicate (4 - (lg_sl ([.ref h, .int g, .int q])).length) Slot.unset).toArray = ls at hl ⊢
  have hl : lv_has ls 4 [(0, .ref h), (1, .int g), (2, .int q)] := hl
  refine lv_iload_n hx hb dX0_prune_0 rfl (lv_at hl 1 rfl) ?_
  refine rd_S (As := [.int g]) (rest := []) S (c_X0_isGroup l g) gX0_prune_X0_isGroup rfl ⟨rfl, rfl⟩ hd_X0_isGroup ⟨Nat.le_of_ble_eq_true rfl, Nat.le_of_ble_eq_true rfl⟩ rfl hl.1 rfl (Nat.le_of_ble_eq_true rfl) dX0_prune_1 ⟨Nat.le_of_ble_eq_true rfl, Nat.le_of_ble_eq_true rfl⟩ ?_
  refine lv_if_eq (tgt := 14) hx hb dX0_prune_4 (by decide) (fun c4 => ?_) (fun c4 => ?_)
  · have b4 := bI_z c4
    refine lv_iconst (v := 0) hx hb dX0_prune_14 (by decide) ?_
    have e4 : xPrJ tm fN fJ g q = fJ := by simp [xPrB, xPrJ, xJoB, bI, b4]
    have hP9 : va_P (dC, dI) vwCl (wX h a1 a2 a3 a4 a5 cA me tm fN fM (xPrJ tm fN fJ g q) fT fC) s.heap := by rw [e4]; exact hP
    have er : (0 : Int32) = bI (xPrB tm fJ g q) := by simp [xPrB, xPrJ, xJoB, bI, b4]
    exact W.zret (v := (0 : Int32)) (ty := .boolean) hx hb hr rfl (fun t ht hW => ⟨⟨_, (), rfl, er, by dsimp only; rw [ht]; exact hP9⟩, by rw [hQ9]; exact hS.F ht⟩) hS.2.2 dX0_prune_15
  · have b4 := bI_nz c4
    refine lv_iload_n hx hb dX0_prune_7 rfl (lv_at hl 2 rfl) ?_
    refine rd_S (As := [.int q]) (rest := []) S (c_X0_isBranch l q) gX0_prune_X0_isBranch rfl ⟨rfl, rfl⟩ hd_X0_isBranch ⟨Nat.le_of_ble_eq_true rfl, Nat.le_of_ble_eq_true rfl⟩ rfl hl.1 rfl (Nat.le_of_ble_eq_true rfl) dX0_prune_8 ⟨Nat.le_of_ble_eq_true rfl, Nat.le_of_ble_eq_true rfl⟩ ?_
    refine lv_if_ne (tgt := 16) hx hb dX0_prune_11 (by decide) (fun c11 => ?_) (fun c11 => ?_)
    · have b11 := bI_nz c11
      refine lv_iload_n hx hb dX0_prune_16 rfl (lv_at hl 1 rfl) ?_
      refine lv_iload_n hx hb dX0_prune_17 rfl (lv_at hl 2 rfl) ?_
      refine rd_S (As := [.int g, .int q]) (rest := []) S (c_X0_branchPlace l g q) gX0_prune_X0_branchPlace rfl ⟨rfl, rfl⟩ hd_X0_branchPlace ⟨Nat.le_of_ble_eq_true rfl, Nat.le_of_ble_eq_true rfl⟩ rfl hl.1 rfl (Nat.le_of_ble_eq_true rfl) dX0_prune_18 ⟨Nat.le_of_ble_eq_true rfl, Nat.le_of_ble_eq_true rfl⟩ ?_
      refine lv_istore_n (lv' := [(3, .int (xPl g q)), (0, .ref h), (1, .int g), (2, .int q)]) hx hb dX0_prune_21 rfl hl (by decide) rfl (fun ls hl => ?_)
      refine lv_aload_n hx hb dX0_prune_22 rfl (lv_at hl 1 rfl) ?_
      refine lv_aload_n hx hb dX0_prune_23 rfl (lv_at hl 1 rfl) ?_
      refine va_get (D := (dC, dI)) (ci := 0) (v := .ref a3) (C := RX0) (T := TX0) (N := 7) hx hb hts iwsX0_prune hown hK hP 0 rfl rfl 4 (by decide) (hts (.fieldLink RX0 16 "BranchTimes" "joinedTill" "[I") (by decide +kernel)) (fun _ h9 => h9) rfl dX0_prune_24 ?_
      refine lv_iload_n hx hb dX0_prune_27 rfl (lv_at hl 0 rfl) ?_
      refine va_iald (D := (dC, dI)) hx hb hK hP 3 0 rfl rfl (Pl_in b4 b11) dX0_prune_28 ?_
      refine rd_V (As := [.int (fJ (xPl g q).toNatClampNeg)]) (rest := []) (ci := 0) (qc := (RX0, TX0, 7)) S (c_X0_stands l dC dI h a1 a2 a3 a4 a5 cA me tm fN fM fJ fT fC (fJ (xPl g q).toNatClampNeg)) gX0_prune_X0_stands rfl ⟨rfl, rfl⟩ hd_X0_stands ⟨Nat.le_of_ble_eq_true rfl, Nat.le_of_ble_eq_true rfl⟩ hK hP rfl rfl rfl hl.1 rfl (Nat.le_of_ble_eq_true rfl) dX0_prune_29 ⟨Nat.le_of_ble_eq_true rfl, Nat.le_of_ble_eq_true rfl⟩ ?_
      refine lv_if_ne (tgt := 37) hx hb dX0_prune_32 (by decide) (fun c32 => ?_) (fun c32 => ?_)
      · have b32 := bI_nz c32
        refine lv_aload_n hx hb dX0_prune_37 rfl (lv_at hl 1 rfl) ?_
        refine va_get (D := (dC, dI)) (ci := 0) (v := .ref a3) (C := RX0) (T := TX0) (N := 7) hx hb hts iwsX0_prune hown hK hP 0 rfl rfl 4 (by decide) (hts (.fieldLink RX0 16 "BranchTimes" "joinedTill" "[I") (by decide +kernel)) (fun _ h9 => h9) rfl dX0_prune_38 ?_
        refine lv_iload_n hx hb dX0_prune_41 rfl (lv_at hl 0 rfl) ?_
        refine lv_aload_n hx hb dX0_prune_42 rfl (lv_at hl 1 rfl) ?_
        refine va_get (D := (dC, dI)) (ci := 0) (v := .ref a3) (C := RX0) (T := TX0) (N := 7) hx hb hts iwsX0_prune hown hK hP 0 rfl rfl 4 (by decide) (hts (.fieldLink RX0 16 "BranchTimes" "joinedTill" "[I") (by decide +kernel)) (fun _ h9 => h9) rfl dX0_prune_43 ?_
        refine lv_iload_n hx hb dX0_prune_46 rfl (lv_at hl 0 rfl) ?_
        refine va_iald (D := (dC, dI)) hx hb hK hP 3 0 rfl rfl (Pl_in b4 b11) dX0_prune_47 ?_
        refine lv_aload_n hx hb dX0_prune_48 rfl (lv_at hl 1 rfl) ?_
        refine rd_V (As := []) (rest := [.int (fJ (xPl g q).toNatClampNeg), .int (xPl g q), .ref a3]) (ci := 0) (qc := (RX0, TX0, 7)) S (c_X0_timeOfEffect l dC dI h a1 a2 a3 a4 a5 cA me tm fN fM fJ fT fC) gX0_prune_X0_timeOfEffect rfl ⟨rfl, rfl⟩ hd_X0_timeOfEffect ⟨Nat.le_of_ble_eq_true rfl, Nat.le_of_ble_eq_true rfl⟩ hK hP rfl rfl rfl hl.1 rfl (Nat.le_of_ble_eq_true rfl) dX0_prune_49 ⟨Nat.le_of_ble_eq_true rfl, Nat.le_of_ble_eq_true rfl⟩ ?_
        refine va_mmin hx hb (by rw [hml]; exact hl.1.symm) hown (hts (.methodLink RX0 25 Lib.Math.min.name) (by decide +kernel)) (hts (.static Lib.Math.min.name) (by decide +kernel)) (hts (.initialized "java/lang/Math") (by decide +kernel)) (hts (.code Lib.Math.min.name Lib.Math.min.code 2 (some .int)) (by decide +kernel)) (Nat.le_of_ble_eq_true rfl) (Nat.le_of_ble_eq_true rfl) (Nat.le_of_ble_eq_true rfl) (Nat.le_of_ble_eq_true rfl) dX0_prune_52 ?_
        refine lv_top (x' := xMin (fJ (xPl g q).toNatClampNeg) (xEff tm (xNb tm fN))) rfl ?_
        refine va_iast (D := (dC, dI)) hx hb hK hP hD hS 3 0 rfl rfl (Pl_in b4 b11) dX0_prune_55 (fun H locs hP hD hS => ?_)
        have hP : va_P (dC, dI) vwCl (wX h a1 a2 a3 a4 a5 cA me tm fN fM (upd fJ (xPl g q).toNatClampNeg (xMin (fJ (xPl g q).toNatClampNeg) (xEff tm (xNb tm fN)))) fT fC) H := hP
        have hD : va_D A (wX h a1 a2 a3 a4 a5 cA me tm fN fM (upd fJ (xPl g q).toNatClampNeg (xMin (fJ (xPl g q).toNatClampNeg) (xEff tm (xNb tm fN)))) fT fC) := hD
        refine lv_iconst (v := 1) hx hb dX0_prune_56 (by decide) ?_
        have e4 : xPrJ tm fN fJ g q = upd fJ (xPl g q).toNatClampNeg (xMin (fJ (xPl g q).toNatClampNeg) (xEff tm (xNb tm fN))) := by simp [xPrB, xPrJ, xJoB, bI, b4, b11, b32]
        have hP9 : va_P (dC, dI) vwCl (wX h a1 a2 a3 a4 a5 cA me tm fN fM (xPrJ tm fN fJ g q) fT fC) H := by rw [e4]; exact hP
        have er : (1 : Int32) = bI (xPrB tm fJ g q) := by simp [xPrB, xPrJ, xJoB, bI, b4, b11, b32]
        exact W.zret (v := (1 : Int32)) (ty := .boolean) hx hb hr rfl (fun t ht hW => ⟨⟨_, (), rfl, er, by dsimp only; rw [ht]; exact hP9⟩, by rw [hQ9]; exact hS.F ht⟩) hS.2.2 dX0_prune_57
      · have b32 := bI_z c32
        refine lv_iconst (v := 0) hx hb dX0_prune_35 (by decide) ?_
        have e4 : xPrJ tm fN fJ g q = fJ := by simp [xPrB, xPrJ, xJoB, bI, b4, b11, b32]
        have hP9 : va_P (dC, dI) vwCl (wX h a1 a2 a3 a4 a5 cA me tm fN fM (xPrJ tm fN fJ g q) fT fC) s.heap := by rw [e4]; exact hP
        have er : (0 : Int32) = bI (xPrB tm fJ g q) := by simp [xPrB, xPrJ, xJoB, bI, b4, b11, b32]
        exact W.zret (v := (0 : Int32)) (ty := .boolean) hx hb hr rfl (fun t ht hW => ⟨⟨_, (), rfl, er, by dsimp only; rw [ht]; exact hP9⟩, by rw [hQ9]; exact hS.F ht⟩) hS.2.2 dX0_prune_36
    · have b11 := bI_z c11
      refine lv_iconst (v := 0) hx hb dX0_prune_14 (by decide) ?_
      have e4 : xPrJ tm fN fJ g q = fJ := by simp [xPrB, xPrJ, xJoB, bI, b4, b11]
      have hP9 : va_P (dC, dI) vwCl (wX h a1 a2 a3 a4 a5 cA me tm fN fM (xPrJ tm fN fJ g q) fT fC) s.heap := by rw [e4]; exact hP
      have er : (0 : Int32) = bI (xPrB tm fJ g q) := by simp [xPrB, xPrJ, xJoB, bI, b4, b11]
      exact W.zret (v := (0 : Int32)) (ty := .boolean) hx hb hr rfl (fun t ht hW => ⟨⟨_, (), rfl, er, by dsimp only; rw [ht]; exact hP9⟩, by rw [hQ9]; exact hS.F ht⟩) hS.2.2 dX0_prune_15
theorem hd_X0_prune : yX0_prune.cls = RX0 ∧ yX0_prune.cls ≠ "java/lang/invoke/MethodHandle" ∧ yX0_prune.cls ≠ "java/lang/invoke/VarHandle" ∧ (parseMethodDescriptor yX0_prune.desc).map (fun d => d.parameters.length) = some 2 := by decide +kernel

theorem iwsX0_forget : ∀ w ∈ u_ws RX0 TX0 7, w ∈ wsX0_forget := fun _ h => List.mem_cons_of_mem _ (List.mem_append_right _ h)
set_option maxHeartbeats 4000000 in
set_option maxRecDepth 100000 in
theorem c_X0_forget (l : Launch) (dC : Nat → ClassId) (dI : Nat → Nat → Nat) (h a1 a2 a3 a4 a5 : Nat) (cA : ClassId) (me tm : Int32) (fN fM fJ fT fC : Nat → Int32) (sz : Nat) : Met l yX0_forget wsX0_forget ({ frames := 1, cells := 0, slots := 0, locals := 23 }) (PW [.ref h] dC dI cA (wX h a1 a2 a3 a4 a5 cA me tm fN fM fJ fT fC) sz) (QWv dC dI (wX h a1 a2 a3 a4 a5 cA me tm fN fM fJ fT fC) (wX h a1 a2 a3 a4 a5 cA me tm (fillI fN (0 : Int32) 10) (fillI fM (0 : Int32) 8) (fillI fJ (0 : Int32) 136) (fillI fT (0 : Int32) 8) (fillI fC (0 : Int32) 128)) sz) 0 0 (va_A (wX h a1 a2 a3 a4 a5 cA me tm fN fM fJ fT fC) sz) := by
  refine Met.ofW (cc := cX0_forget) (maxL := 1) (ret := none) (by decide) rfl ?_
  intro p e s m args below meth c s₁ B hml hv
  obtain ⟨rfl, hsz, hP, hK, hD0⟩ := hv
  have hx := B.exec
  have hb := B.bytes
  have hr := B.returns
  have hts := atoms_spec (ws := wsX0_forget) B.pre
  have hown : s.vm.findClass RX0 = some m.cls := findClass_of_methodNamed B.named
  have hlocks := B.notSynchronized
  have S : CallFix p m c cX0_forget 1 s ([.ref h] : List Value).toArray wsX0_forget RX0 := ⟨hx, hb, hml, hown, hts⟩
  subst hsz
  have hD := hD0.self (sz := s.heap.size)
  generalize hAe : va_A (wX h a1 a2 a3 a4 a5 cA me tm fN fM fJ fT fC) s.heap.size = A at hD ⊢
  have hAA : ∀ q : Nat, s.heap.size ≤ q → A q := fun q h => by rw [← hAe]; exact Or.inr h
  have hS : va_S A s.heap s.heap [] := va_S.rf
  have hQ9 := hAe
  have hl := lv_entry ([.ref h]) (n := 1) (Nat.le_of_ble_eq_true rfl)
  rw [lg_entry_eq]
  generalize (lg_sl ([.ref h]) ++ List.replicate (1 - (lg_sl ([.ref h])).length) Slot.unset).toArray = ls at hl ⊢
  have hl : lv_has ls 1 [(0, .ref h)] := hl
  refine lv_aload_n hx hb dX0_forget_0 rfl (lv_at hl 0 rfl) ?_
  refine va_get (D := (dC, dI)) (ci := 0) (v := .ref a1) (C := RX0) (T := TX0) (N := 7) hx hb hts iwsX0_forget hown hK hP 0 rfl rfl 2 (by decide) (hts (.fieldLink RX0 9 "BranchTimes" "neighbourTill" "[I") (by decide +kernel)) (fun _ h9 => h9) rfl dX0_forget_1 ?_
  refine lv_iconst (v := 0) hx hb dX0_forget_4 (by decide) ?_
  refine wr_Sv (As := [.ref a1, .int ((0 : Int32))]) (rest := []) (wr := [(h, .inr (0, [.int me, .int tm, .ref a1, .ref a2, .ref a3, .ref a4, .ref a5])), (a2, .inl (cA, 8, .inl fM)), (a3, .inl (cA, 136, .inl fJ)), (a4, .inl (cA, 8, .inl fT)), (a5, .inl (cA, 128, .inl fC))]) (A0 := A) S (c_J7_fill_53178 l dC dI a1 cA 10 fN ((0 : Int32)) (by decide) _) gX0_forget_J7_fill_53178 rfl ⟨rfl, rfl⟩ hd_J7_fill_53178 ⟨Nat.le_of_ble_eq_true rfl, Nat.le_of_ble_eq_true rfl⟩ hK hP hD hS hAA [1] [0, 2, 3, 4, 5] rfl rfl (by decide) (by decide) (by decide) rfl rfl hl.1 rfl (Nat.le_of_ble_eq_true rfl) dX0_forget_5 ⟨Nat.le_of_ble_eq_true rfl, Nat.le_of_ble_eq_true rfl⟩ (fun H locs hP hD hS => ?_)
  have hP : va_P (dC, dI) vwCl (wX h a1 a2 a3 a4 a5 cA me tm (fillI fN (0 : Int32) 10) fM fJ fT fC) H := hP.sub [0, 5, 1, 2, 3, 4] rfl
  have hD : va_D A (wX h a1 a2 a3 a4 a5 cA me tm (fillI fN (0 : Int32) 10) fM fJ fT fC) := hD.sub [0, 5, 1, 2, 3, 4] (by decide) rfl
  refine lv_aload_n hx hb dX0_forget_8 rfl (lv_at hl 0 rfl) ?_
  refine va_get (D := (dC, dI)) (ci := 0) (v := .ref a2) (C := RX0) (T := TX0) (N := 7) hx hb hts iwsX0_forget hown hK hP 0 rfl rfl 3 (by decide) (hts (.fieldLink RX0 13 "BranchTimes" "membersTill" "[I") (by decide +kernel)) (fun _ h9 => h9) rfl dX0_forget_9 ?_
  refine lv_iconst (v := 0) hx hb dX0_forget_12 (by decide) ?_
  refine wr_Sv (As := [.ref a2, .int ((0 : Int32))]) (rest := []) (wr := [(h, .inr (0, [.int me, .int tm, .ref a1, .ref a2, .ref a3, .ref a4, .ref a5])), (a1, .inl (cA, 10, .inl (fillI fN (0 : Int32) 10))), (a3, .inl (cA, 136, .inl fJ)), (a4, .inl (cA, 8, .inl fT)), (a5, .inl (cA, 128, .inl fC))]) (A0 := A) S (c_J7_fill_53178 l dC dI a2 cA 8 fM ((0 : Int32)) (by decide) _) gX0_forget_J7_fill_53178 rfl ⟨rfl, rfl⟩ hd_J7_fill_53178 ⟨Nat.le_of_ble_eq_true rfl, Nat.le_of_ble_eq_true rfl⟩ hK hP hD hS hAA [2] [0, 1, 3, 4, 5] rfl rfl (by decide) (by decide) (by decide) rfl rfl hl.1 rfl (Nat.le_of_ble_eq_true rfl) dX0_forget_13 ⟨Nat.le_of_ble_eq_true rfl, Nat.le_of_ble_eq_true rfl⟩ (fun H locs hP hD hS => ?_)
  have hP : va_P (dC, dI) vwCl (wX h a1 a2 a3 a4 a5 cA me tm (fillI fN (0 : Int32) 10) (fillI fM (0 : Int32) 8) fJ fT fC) H := hP.sub [0, 1, 5, 2, 3, 4] rfl
  have hD : va_D A (wX h a1 a2 a3 a4 a5 cA me tm (fillI fN (0 : Int32) 10) (fillI fM (0 : Int32) 8) fJ fT fC) := hD.sub [0, 1, 5, 2, 3, 4] (by decide) rfl
  refine lv_aload_n hx hb dX0_forget_16 rfl (lv_at hl 0 rfl) ?_
  refine va_get (D := (dC, dI)) (ci := 0) (v := .ref a3) (C := RX0) (T := TX0) (N := 7) hx hb hts iwsX0_forget hown hK hP 0 rfl rfl 4 (by decide) (hts (.fieldLink RX0 16 "BranchTimes" "joinedTill" "[I") (by decide +kernel)) (fun _ h9 => h9) rfl dX0_forget_17 ?_
  refine lv_iconst (v := 0) hx hb dX0_forget_20 (by decide) ?_
  refine wr_Sv (As := [.ref a3, .int ((0 : Int32))]) (rest := []) (wr := [(h, .inr (0, [.int me, .int tm, .ref a1, .ref a2, .ref a3, .ref a4, .ref a5])), (a1, .inl (cA, 10, .inl (fillI fN (0 : Int32) 10))), (a2, .inl (cA, 8, .inl (fillI fM (0 : Int32) 8))), (a4, .inl (cA, 8, .inl fT)), (a5, .inl (cA, 128, .inl fC))]) (A0 := A) S (c_J7_fill_53178 l dC dI a3 cA 136 fJ ((0 : Int32)) (by decide) _) gX0_forget_J7_fill_53178 rfl ⟨rfl, rfl⟩ hd_J7_fill_53178 ⟨Nat.le_of_ble_eq_true rfl, Nat.le_of_ble_eq_true rfl⟩ hK hP hD hS hAA [3] [0, 1, 2, 4, 5] rfl rfl (by decide) (by decide) (by decide) rfl rfl hl.1 rfl (Nat.le_of_ble_eq_true rfl) dX0_forget_21 ⟨Nat.le_of_ble_eq_true rfl, Nat.le_of_ble_eq_true rfl⟩ (fun H locs hP hD hS => ?_)
  have hP : va_P (dC, dI) vwCl (wX h a1 a2 a3 a4 a5 cA me tm (fillI fN (0 : Int32) 10) (fillI fM (0 : Int32) 8) (fillI fJ (0 : Int32) 136) fT fC) H := hP.sub [0, 1, 2, 5, 3, 4] rfl
  have hD : va_D A (wX h a1 a2 a3 a4 a5 cA me tm (fillI fN (0 : Int32) 10) (fillI fM (0 : Int32) 8) (fillI fJ (0 : Int32) 136) fT fC) := hD.sub [0, 1, 2, 5, 3, 4] (by decide) rfl
  refine lv_aload_n hx hb dX0_forget_24 rfl (lv_at hl 0 rfl) ?_
  refine va_get (D := (dC, dI)) (ci := 0) (v := .ref a4) (C := RX0) (T := TX0) (N := 7) hx hb hts iwsX0_forget hown hK hP 0 rfl rfl 5 (by decide) (hts (.fieldLink RX0 19 "BranchTimes" "told" "[I") (by decide +kernel)) (fun _ h9 => h9) rfl dX0_forget_25 ?_
  refine lv_iconst (v := 0) hx hb dX0_forget_28 (by decide) ?_
  refine wr_Sv (As := [.ref a4, .int ((0 : Int32))]) (rest := []) (wr := [(h, .inr (0, [.int me, .int tm, .ref a1, .ref a2, .ref a3, .ref a4, .ref a5])), (a1, .inl (cA, 10, .inl (fillI fN (0 : Int32) 10))), (a2, .inl (cA, 8, .inl (fillI fM (0 : Int32) 8))), (a3, .inl (cA, 136, .inl (fillI fJ (0 : Int32) 136))), (a5, .inl (cA, 128, .inl fC))]) (A0 := A) S (c_J7_fill_53178 l dC dI a4 cA 8 fT ((0 : Int32)) (by decide) _) gX0_forget_J7_fill_53178 rfl ⟨rfl, rfl⟩ hd_J7_fill_53178 ⟨Nat.le_of_ble_eq_true rfl, Nat.le_of_ble_eq_true rfl⟩ hK hP hD hS hAA [4] [0, 1, 2, 3, 5] rfl rfl (by decide) (by decide) (by decide) rfl rfl hl.1 rfl (Nat.le_of_ble_eq_true rfl) dX0_forget_29 ⟨Nat.le_of_ble_eq_true rfl, Nat.le_of_ble_eq_true rfl⟩ (fun H locs hP hD hS => ?_)
  have hP : va_P (dC, dI) vwCl (wX h a1 a2 a3 a4 a5 cA me tm (fillI fN (0 : Int32) 10) (fillI fM (0 : Int32) 8) (fillI fJ (0 : Int32) 136) (fillI fT (0 : Int32) 8) fC) H := hP.sub [0, 1, 2, 3, 5, 4] rfl
  have hD : va_D A (wX h a1 a2 a3 a4 a5 cA me tm (fillI fN (0 : Int32) 10) (fillI fM (0 : Int32) 8) (fillI fJ (0 : Int32) 136) (fillI fT (0 : Int32) 8) fC) := hD.sub [0, 1, 2, 3, 5, 4] (by decide) rfl
  refine lv_aload_n hx hb dX0_forget_32 rfl (lv_at hl 0 rfl) ?_
  refine va_get (D := (dC, dI)) (ci := 0) (v := .ref a5) (C := RX0) (T := TX0) (N := 7) hx hb hts iwsX0_forget hown hK hP 0 rfl rfl 6 (by decide) (hts (.fieldLink RX0 22 "BranchTimes" "cutFrom" "[I") (by decide +kernel)) (fun _ h9 => h9) rfl dX0_forget_33 ?_
  refine lv_iconst (v := 0) hx hb dX0_forget_36 (by decide) ?_
  refine wr_Sv (As := [.ref a5, .int ((0 : Int32))]) (rest := []) (wr := [(h, .inr (0, [.int me, .int tm, .ref a1, .ref a2, .ref a3, .ref a4, .ref a5])), (a1, .inl (cA, 10, .inl (fillI fN (0 : Int32) 10))), (a2, .inl (cA, 8, .inl (fillI fM (0 : Int32) 8))), (a3, .inl (cA, 136, .inl (fillI fJ (0 : Int32) 136))), (a4, .inl (cA, 8, .inl (fillI fT (0 : Int32) 8)))]) (A0 := A) S (c_J7_fill_53178 l dC dI a5 cA 128 fC ((0 : Int32)) (by decide) _) gX0_forget_J7_fill_53178 rfl ⟨rfl, rfl⟩ hd_J7_fill_53178 ⟨Nat.le_of_ble_eq_true rfl, Nat.le_of_ble_eq_true rfl⟩ hK hP hD hS hAA [5] [0, 1, 2, 3, 4] rfl rfl (by decide) (by decide) (by decide) rfl rfl hl.1 rfl (Nat.le_of_ble_eq_true rfl) dX0_forget_37 ⟨Nat.le_of_ble_eq_true rfl, Nat.le_of_ble_eq_true rfl⟩ (fun H locs hP hD hS => ?_)
  have hP : va_P (dC, dI) vwCl (wX h a1 a2 a3 a4 a5 cA me tm (fillI fN (0 : Int32) 10) (fillI fM (0 : Int32) 8) (fillI fJ (0 : Int32) 136) (fillI fT (0 : Int32) 8) (fillI fC (0 : Int32) 128)) H := hP.sub [0, 1, 2, 3, 4, 5] rfl
  have hD : va_D A (wX h a1 a2 a3 a4 a5 cA me tm (fillI fN (0 : Int32) 10) (fillI fM (0 : Int32) 8) (fillI fJ (0 : Int32) 136) (fillI fT (0 : Int32) 8) (fillI fC (0 : Int32) 128)) := hD.sub [0, 1, 2, 3, 4, 5] (by decide) rfl
  have hP9 : va_P (dC, dI) vwCl (wX h a1 a2 a3 a4 a5 cA me tm (fillI fN (0 : Int32) 10) (fillI fM (0 : Int32) 8) (fillI fJ (0 : Int32) 136) (fillI fT (0 : Int32) 8) (fillI fC (0 : Int32) 128)) H := by exact hP
  exact W.vret hx hb hr (fun t ht hW => ⟨⟨(), rfl, trivial, by dsimp only; rw [ht]; exact hP9⟩, by rw [hQ9]; exact hS.F ht⟩) hS.2.2 dX0_forget_40
theorem hd_X0_forget : yX0_forget.cls = RX0 ∧ yX0_forget.cls ≠ "java/lang/invoke/MethodHandle" ∧ yX0_forget.cls ≠ "java/lang/invoke/VarHandle" ∧ (parseMethodDescriptor yX0_forget.desc).map (fun d => d.parameters.length) = some 0 := by decide +kernel
