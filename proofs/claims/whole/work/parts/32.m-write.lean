theorem iwsX1_tick : ∀ w ∈ u_ws RX1 TX1 8, w ∈ wsX1_tick := fun _ h => List.mem_cons_of_mem _ (List.mem_append_right _ h)
set_option maxHeartbeats 4000000 in
set_option maxRecDepth 100000 in
theorem c_X1_tick (l : Launch) (dC : Nat → ClassId) (dI : Nat → Nat → Nat) (h a1 a2 a3 a4 a5 a6 : Nat) (cA : ClassId) (me tm : Int32) (hA rA lT jA pT cF : Nat → Int32) (n : Int32) (sz : Nat) : Met l yX1_tick wsX1_tick ({ frames := 0, cells := 0, slots := 0, locals := 0 }) (PW [.ref h, .int n] dC dI cA (wM h a1 a2 a3 a4 a5 a6 cA me tm hA rA lT jA pT cF) sz) (QWi dC dI (xTickR tm n) (wM h a1 a2 a3 a4 a5 a6 cA me tm hA rA lT jA pT cF) (wM h a1 a2 a3 a4 a5 a6 cA me (xTickT tm n) hA rA lT jA pT cF) sz) 0 0 (va_A (wM h a1 a2 a3 a4 a5 a6 cA me tm hA rA lT jA pT cF) sz) := by
  refine Met.ofW (cc := cX1_tick) (maxL := 2) (ret := some .int) (by decide) rfl ?_
  intro p e s m args below meth c s₁ B hml hv
  obtain ⟨rfl, hsz, hP, hK, hD0⟩ := hv
  have hx := B.exec
  have hb := B.bytes
  have hr := B.returns
  have hts := atoms_spec (ws := wsX1_tick) B.pre
  have hown : s.vm.findClass RX1 = some m.cls := findClass_of_methodNamed B.named
  have hlocks := B.notSynchronized
  have S : CallFix p m c cX1_tick 2 s ([.ref h, .int n] : List Value).toArray wsX1_tick RX1 := ⟨hx, hb, hml, hown, hts⟩
  subst hsz
  have hD := hD0.self (sz := s.heap.size)
  generalize hAe : va_A (wM h a1 a2 a3 a4 a5 a6 cA me tm hA rA lT jA pT cF) s.heap.size = A at hD ⊢
  have hAA : ∀ q : Nat, s.heap.size ≤ q → A q := fun q h => by rw [← hAe]; exact Or.inr h
  have hS : va_S A s.heap s.heap [] := va_S.rf
  have hQ9 := hAe
  have hl := lv_entry ([.ref h, .int n]) (n := 2) (Nat.le_of_ble_eq_true rfl)
  rw [lg_entry_eq]
  generalize (lg_sl ([.ref h, .int n]) ++ List.replicate (2 - (lg_sl ([.ref h, .int n])).length) Slot.unset).toArray = ls at hl ⊢
  have hl : lv_has ls 2 [(0, .ref h), (1, .int n)] := hl
  refine lv_iload_n hx hb dX1_tick_0 rfl (lv_at hl 1 rfl) ?_
  refine lv_iconst (v := 1) hx hb dX1_tick_1 (by decide) ?_
  refine lv_icmp_lt (tgt := 22) hx hb dX1_tick_2 (by decide) (fun c2 => ?_) (fun c2 => ?_)
  · refine lv_iconst (v := -1) hx hb dX1_tick_22 (by decide) ?_
    have e1 : xTickT tm n = tm := by simp [xTickR, xTickT, xTickB, c2]
    have hP9 : va_P (dC, dI) vwCl (wM h a1 a2 a3 a4 a5 a6 cA me (xTickT tm n) hA rA lT jA pT cF) s.heap := by rw [e1]; exact hP
    have er : (-1 : Int32) = xTickR tm n := by simp [xTickR, xTickT, xTickB, c2]
    exact W.iret (v := (-1 : Int32)) hx hb hr (fun t ht hW => ⟨⟨_, (), rfl, er, by dsimp only; rw [ht]; exact hP9⟩, by rw [hQ9]; exact hS.F ht⟩) hS.2.2 dX1_tick_23
  · refine lv_iload_n hx hb dX1_tick_5 rfl (lv_at hl 1 rfl) ?_
    refine lv_bipush (v := 100) hx hb dX1_tick_6 (by decide) ?_
    refine lv_icmp_gt (tgt := 22) hx hb dX1_tick_8 (by decide) (fun c8 => ?_) (fun c8 => ?_)
    · refine lv_iconst (v := -1) hx hb dX1_tick_22 (by decide) ?_
      have e1 : xTickT tm n = tm := by simp [xTickR, xTickT, xTickB, c2, c8]
      have hP9 : va_P (dC, dI) vwCl (wM h a1 a2 a3 a4 a5 a6 cA me (xTickT tm n) hA rA lT jA pT cF) s.heap := by rw [e1]; exact hP
      have er : (-1 : Int32) = xTickR tm n := by simp [xTickR, xTickT, xTickB, c2, c8]
      exact W.iret (v := (-1 : Int32)) hx hb hr (fun t ht hW => ⟨⟨_, (), rfl, er, by dsimp only; rw [ht]; exact hP9⟩, by rw [hQ9]; exact hS.F ht⟩) hS.2.2 dX1_tick_23
    · refine lv_aload_n hx hb dX1_tick_11 rfl (lv_at hl 0 rfl) ?_
      refine va_get (D := (dC, dI)) (ci := 1) (v := .int tm) (C := RX1) (T := TX1) (N := 8) hx hb hts iwsX1_tick hown hK hP 0 rfl rfl 1 (by decide) (hts (.fieldLink RX1 39 "BranchTimesModel" "time" "I") (by decide +kernel)) (fun _ h9 => h9) rfl dX1_tick_12 ?_
      refine lv_iload_n hx hb dX1_tick_15 rfl (lv_at hl 1 rfl) ?_
      refine lv_iadd hx hb dX1_tick_16 ?_
      refine lv_ldc (v := 100000) hx hb hown (hts (.constant RX1 42 (100000)) (by decide +kernel)) dX1_tick_17 ?_
      refine lv_icmp_le (tgt := 24) hx hb dX1_tick_19 (by decide) (fun c19 => ?_) (fun c19 => ?_)
      · refine lv_aload_n hx hb dX1_tick_24 rfl (lv_at hl 0 rfl) ?_
        refine lv_dup hx hb dX1_tick_25 rfl ?_
        refine va_get (D := (dC, dI)) (ci := 1) (v := .int tm) (C := RX1) (T := TX1) (N := 8) hx hb hts iwsX1_tick hown hK hP 0 rfl rfl 1 (by decide) (hts (.fieldLink RX1 39 "BranchTimesModel" "time" "I") (by decide +kernel)) (fun _ h9 => h9) rfl dX1_tick_26 ?_
        refine lv_iload_n hx hb dX1_tick_29 rfl (lv_at hl 1 rfl) ?_
        refine lv_iadd hx hb dX1_tick_30 ?_
        refine va_put (D := (dC, dI)) (ci := 1) (v := .int (tm + n)) (ty := .int) (C := RX1) (T := TX1) (N := 8) hx hb hts iwsX1_tick tyX1 tyX1_ok nmX1 hown hK hP hD hS 0 rfl rfl 1 (by decide) (hts (.fieldLink RX1 39 "BranchTimesModel" "time" "I") (by decide +kernel)) (fun _ h9 => h9) rfl (by decide +kernel) rfl rfl (Nat.le_of_ble_eq_true rfl) dX1_tick_31 (fun H locs hP hD hS => ?_)
        have hP : va_P (dC, dI) vwCl (wM h a1 a2 a3 a4 a5 a6 cA me (tm + n) hA rA lT jA pT cF) H := hP
        have hD : va_D A (wM h a1 a2 a3 a4 a5 a6 cA me (tm + n) hA rA lT jA pT cF) := hD
        refine lv_aload_n hx hb dX1_tick_34 rfl (lv_at hl 0 rfl) ?_
        refine va_get (D := (dC, dI)) (ci := 1) (v := .int (tm + n)) (C := RX1) (T := TX1) (N := 8) hx hb hts iwsX1_tick hown hK hP 0 rfl rfl 1 (by decide) (hts (.fieldLink RX1 39 "BranchTimesModel" "time" "I") (by decide +kernel)) (fun _ h9 => h9) rfl dX1_tick_35 ?_
        have e1 : xTickT tm n = tm + n := by simp [xTickR, xTickT, xTickB, c2, c8, c19]
        have hP9 : va_P (dC, dI) vwCl (wM h a1 a2 a3 a4 a5 a6 cA me (xTickT tm n) hA rA lT jA pT cF) H := by rw [e1]; exact hP
        have er : tm + n = xTickR tm n := by simp [xTickR, xTickT, xTickB, c2, c8, c19]
        exact W.iret (v := tm + n) hx hb hr (fun t ht hW => ⟨⟨_, (), rfl, er, by dsimp only; rw [ht]; exact hP9⟩, by rw [hQ9]; exact hS.F ht⟩) hS.2.2 dX1_tick_38
      · refine lv_iconst (v := -1) hx hb dX1_tick_22 (by decide) ?_
        have e1 : xTickT tm n = tm := by simp [xTickR, xTickT, xTickB, c2, c8, c19]
        have hP9 : va_P (dC, dI) vwCl (wM h a1 a2 a3 a4 a5 a6 cA me (xTickT tm n) hA rA lT jA pT cF) s.heap := by rw [e1]; exact hP
        have er : (-1 : Int32) = xTickR tm n := by simp [xTickR, xTickT, xTickB, c2, c8, c19]
        exact W.iret (v := (-1 : Int32)) hx hb hr (fun t ht hW => ⟨⟨_, (), rfl, er, by dsimp only; rw [ht]; exact hP9⟩, by rw [hQ9]; exact hS.F ht⟩) hS.2.2 dX1_tick_23
theorem hd_X1_tick : yX1_tick.cls = RX1 ∧ yX1_tick.cls ≠ "java/lang/invoke/MethodHandle" ∧ yX1_tick.cls ≠ "java/lang/invoke/VarHandle" ∧ (parseMethodDescriptor yX1_tick.desc).map (fun d => d.parameters.length) = some 1 := by decide +kernel

theorem iwsX1_hello : ∀ w ∈ u_ws RX1 TX1 8, w ∈ wsX1_hello := fun _ h => List.mem_cons_of_mem _ (List.mem_append_right _ h)
set_option maxHeartbeats 4000000 in
set_option maxRecDepth 100000 in
theorem c_X1_hello (l : Launch) (dC : Nat → ClassId) (dI : Nat → Nat → Nat) (h a1 a2 a3 a4 a5 a6 : Nat) (cA : ClassId) (me tm : Int32) (hA rA lT jA pT cF : Nat → Int32) (n : Int32) (sz : Nat) : Met l yX1_hello wsX1_hello ({ frames := 0, cells := 0, slots := 0, locals := 0 }) (PW [.ref h, .int n] dC dI cA (wM h a1 a2 a3 a4 a5 a6 cA me tm hA rA lT jA pT cF) sz) (QWi dC dI (bI (!mHeB me n)) (wM h a1 a2 a3 a4 a5 a6 cA me tm hA rA lT jA pT cF) (wM h a1 a2 a3 a4 a5 a6 cA me tm (mHeA me tm hA n) rA lT jA pT cF) sz) 0 0 (va_A (wM h a1 a2 a3 a4 a5 a6 cA me tm hA rA lT jA pT cF) sz) := by
  refine Met.ofW (cc := cX1_hello) (maxL := 2) (ret := some .boolean) (by decide) rfl ?_
  intro p e s m args below meth c s₁ B hml hv
  obtain ⟨rfl, hsz, hP, hK, hD0⟩ := hv
  have hx := B.exec
  have hb := B.bytes
  have hr := B.returns
  have hts := atoms_spec (ws := wsX1_hello) B.pre
  have hown : s.vm.findClass RX1 = some m.cls := findClass_of_methodNamed B.named
  have hlocks := B.notSynchronized
  have S : CallFix p m c cX1_hello 2 s ([.ref h, .int n] : List Value).toArray wsX1_hello RX1 := ⟨hx, hb, hml, hown, hts⟩
  subst hsz
  have hD := hD0.self (sz := s.heap.size)
  generalize hAe : va_A (wM h a1 a2 a3 a4 a5 a6 cA me tm hA rA lT jA pT cF) s.heap.size = A at hD ⊢
  have hAA : ∀ q : Nat, s.heap.size ≤ q → A q := fun q h => by rw [← hAe]; exact Or.inr h
  have hS : va_S A s.heap s.heap [] := va_S.rf
  have hQ9 := hAe
  have hl := lv_entry ([.ref h, .int n]) (n := 2) (Nat.le_of_ble_eq_true rfl)
  rw [lg_entry_eq]
  generalize (lg_sl ([.ref h, .int n]) ++ List.replicate (2 - (lg_sl ([.ref h, .int n])).length) Slot.unset).toArray = ls at hl ⊢
  have hl : lv_has ls 2 [(0, .ref h), (1, .int n)] := hl
  refine lv_iload_n hx hb dX1_hello_0 rfl (lv_at hl 1 rfl) ?_
  refine lv_if_lt (tgt := 18) hx hb dX1_hello_1 (by decide) (fun c1 => ?_) (fun c1 => ?_)
  · refine lv_iconst (v := 0) hx hb dX1_hello_18 (by decide) ?_
    have e2 : mHeA me tm hA n = hA := by simp [mHeB, mHeA, bI, c1]
    have hP9 : va_P (dC, dI) vwCl (wM h a1 a2 a3 a4 a5 a6 cA me tm (mHeA me tm hA n) rA lT jA pT cF) s.heap := by rw [e2]; exact hP
    have er : (0 : Int32) = bI (!mHeB me n) := by simp [mHeB, mHeA, bI, c1]
    exact W.zret (v := (0 : Int32)) (ty := .boolean) hx hb hr rfl (fun t ht hW => ⟨⟨_, (), rfl, er, by dsimp only; rw [ht]; exact hP9⟩, by rw [hQ9]; exact hS.F ht⟩) hS.2.2 dX1_hello_19
  · refine lv_iload_n hx hb dX1_hello_4 rfl (lv_at hl 1 rfl) ?_
    refine lv_bipush (v := 9) hx hb dX1_hello_5 (by decide) ?_
    refine lv_icmp_gt (tgt := 18) hx hb dX1_hello_7 (by decide) (fun c7 => ?_) (fun c7 => ?_)
    · refine lv_iconst (v := 0) hx hb dX1_hello_18 (by decide) ?_
      have e2 : mHeA me tm hA n = hA := by simp [mHeB, mHeA, bI, c1, c7]
      have hP9 : va_P (dC, dI) vwCl (wM h a1 a2 a3 a4 a5 a6 cA me tm (mHeA me tm hA n) rA lT jA pT cF) s.heap := by rw [e2]; exact hP
      have er : (0 : Int32) = bI (!mHeB me n) := by simp [mHeB, mHeA, bI, c1, c7]
      exact W.zret (v := (0 : Int32)) (ty := .boolean) hx hb hr rfl (fun t ht hW => ⟨⟨_, (), rfl, er, by dsimp only; rw [ht]; exact hP9⟩, by rw [hQ9]; exact hS.F ht⟩) hS.2.2 dX1_hello_19
    · refine lv_iload_n hx hb dX1_hello_10 rfl (lv_at hl 1 rfl) ?_
      refine lv_aload_n hx hb dX1_hello_11 rfl (lv_at hl 0 rfl) ?_
      refine va_get (D := (dC, dI)) (ci := 1) (v := .int me) (C := RX1) (T := TX1) (N := 8) hx hb hts iwsX1_hello hown hK hP 0 rfl rfl 0 (by decide) (hts (.fieldLink RX1 28 "BranchTimesModel" "me" "I") (by decide +kernel)) (fun _ h9 => h9) rfl dX1_hello_12 ?_
      refine lv_icmp_ne (tgt := 20) hx hb dX1_hello_15 (by decide) (fun c15 => ?_) (fun c15 => ?_)
      · refine lv_aload_n hx hb dX1_hello_20 rfl (lv_at hl 0 rfl) ?_
        refine va_get (D := (dC, dI)) (ci := 1) (v := .ref a1) (C := RX1) (T := TX1) (N := 8) hx hb hts iwsX1_hello hown hK hP 0 rfl rfl 2 (by decide) (hts (.fieldLink RX1 7 "BranchTimesModel" "helloAt" "[I") (by decide +kernel)) (fun _ h9 => h9) rfl dX1_hello_21 ?_
        refine lv_iload_n hx hb dX1_hello_24 rfl (lv_at hl 1 rfl) ?_
        refine lv_aload_n hx hb dX1_hello_25 rfl (lv_at hl 0 rfl) ?_
        refine va_get (D := (dC, dI)) (ci := 1) (v := .int tm) (C := RX1) (T := TX1) (N := 8) hx hb hts iwsX1_hello hown hK hP 0 rfl rfl 1 (by decide) (hts (.fieldLink RX1 39 "BranchTimesModel" "time" "I") (by decide +kernel)) (fun _ h9 => h9) rfl dX1_hello_26 ?_
        refine va_iast (D := (dC, dI)) hx hb hK hP hD hS 1 0 rfl rfl (mHe_in (me := me) (by simp [mHeB, c1, c7, c15])) dX1_hello_29 (fun H locs hP hD hS => ?_)
        have hP : va_P (dC, dI) vwCl (wM h a1 a2 a3 a4 a5 a6 cA me tm (upd hA n.toNatClampNeg tm) rA lT jA pT cF) H := hP
        have hD : va_D A (wM h a1 a2 a3 a4 a5 a6 cA me tm (upd hA n.toNatClampNeg tm) rA lT jA pT cF) := hD
        refine lv_iconst (v := 1) hx hb dX1_hello_30 (by decide) ?_
        have e2 : mHeA me tm hA n = upd hA n.toNatClampNeg tm := by simp [mHeB, mHeA, bI, c1, c7, c15]
        have hP9 : va_P (dC, dI) vwCl (wM h a1 a2 a3 a4 a5 a6 cA me tm (mHeA me tm hA n) rA lT jA pT cF) H := by rw [e2]; exact hP
        have er : (1 : Int32) = bI (!mHeB me n) := by simp [mHeB, mHeA, bI, c1, c7, c15]
        exact W.zret (v := (1 : Int32)) (ty := .boolean) hx hb hr rfl (fun t ht hW => ⟨⟨_, (), rfl, er, by dsimp only; rw [ht]; exact hP9⟩, by rw [hQ9]; exact hS.F ht⟩) hS.2.2 dX1_hello_31
      · refine lv_iconst (v := 0) hx hb dX1_hello_18 (by decide) ?_
        have e2 : mHeA me tm hA n = hA := by simp [mHeB, mHeA, bI, c1, c7, c15]
        have hP9 : va_P (dC, dI) vwCl (wM h a1 a2 a3 a4 a5 a6 cA me tm (mHeA me tm hA n) rA lT jA pT cF) s.heap := by rw [e2]; exact hP
        have er : (0 : Int32) = bI (!mHeB me n) := by simp [mHeB, mHeA, bI, c1, c7, c15]
        exact W.zret (v := (0 : Int32)) (ty := .boolean) hx hb hr rfl (fun t ht hW => ⟨⟨_, (), rfl, er, by dsimp only; rw [ht]; exact hP9⟩, by rw [hQ9]; exact hS.F ht⟩) hS.2.2 dX1_hello_19
theorem hd_X1_hello : yX1_hello.cls = RX1 ∧ yX1_hello.cls ≠ "java/lang/invoke/MethodHandle" ∧ yX1_hello.cls ≠ "java/lang/invoke/VarHandle" ∧ (parseMethodDescriptor yX1_hello.desc).map (fun d => d.parameters.length) = some 1 := by decide +kernel

theorem iwsX1_report : ∀ w ∈ u_ws RX1 TX1 8, w ∈ wsX1_report := fun _ h => List.mem_cons_of_mem _ (List.mem_append_right _ h)
set_option maxHeartbeats 4000000 in
set_option maxRecDepth 100000 in
theorem c_X1_report (l : Launch) (dC : Nat → ClassId) (dI : Nat → Nat → Nat) (h a1 a2 a3 a4 a5 a6 : Nat) (cA : ClassId) (me tm : Int32) (hA rA lT jA pT cF : Nat → Int32) (g : Int32) (sz : Nat) : Met l yX1_report wsX1_report ({ frames := 1, cells := 0, slots := 0, locals := 20 }) (PW [.ref h, .int g] dC dI cA (wM h a1 a2 a3 a4 a5 a6 cA me tm hA rA lT jA pT cF) sz) (QWi dC dI (bI (xG g)) (wM h a1 a2 a3 a4 a5 a6 cA me tm hA rA lT jA pT cF) (wM h a1 a2 a3 a4 a5 a6 cA me tm hA (mReA tm rA g) (mReT lT g) jA pT cF) sz) 0 0 (va_A (wM h a1 a2 a3 a4 a5 a6 cA me tm hA rA lT jA pT cF) sz) := by
  refine Met.ofW (cc := cX1_report) (maxL := 2) (ret := some .boolean) (by decide) rfl ?_
  intro p e s m args below meth c s₁ B hml hv
  obtain ⟨rfl, hsz, hP, hK, hD0⟩ := hv
  have hx := B.exec
  have hb := B.bytes
  have hr := B.returns
  have hts := atoms_spec (ws := wsX1_report) B.pre
  have hown : s.vm.findClass RX1 = some m.cls := findClass_of_methodNamed B.named
  have hlocks := B.notSynchronized
  have S : CallFix p m c cX1_report 2 s ([.ref h, .int g] : List Value).toArray wsX1_report RX1 := ⟨hx, hb, hml, hown, hts⟩
  subst hsz
  have hD := hD0.self (sz := s.heap.size)
  generalize hAe : va_A (wM h a1 a2 a3 a4 a5 a6 cA me tm hA rA lT jA pT cF) s.heap.size = A at hD ⊢
  have hAA : ∀ q : Nat, s.heap.size ≤ q → A q := fun q h => by rw [← hAe]; exact Or.inr h
  have hS : va_S A s.heap s.heap [] := va_S.rf
  have hQ9 := hAe
  have hl := lv_entry ([.ref h, .int g]) (n := 2) (Nat.le_of_ble_eq_true rfl)
  rw [lg_entry_eq]
  generalize (lg_sl ([.ref h, .int g]) ++ List.replicate (2 - (lg_sl ([.ref h, .int g])).length) Slot.unset).toArray = ls at hl ⊢
  have hl : lv_has ls 2 [(0, .ref h), (1, .int g)] := hl
  refine lv_iload_n hx hb dX1_report_0 rfl (lv_at hl 1 rfl) ?_
  refine rd_S (As := [.int g]) (rest := []) S (c_X1_isGroup l g) gX1_report_X1_isGroup rfl ⟨rfl, rfl⟩ hd_X1_isGroup ⟨Nat.le_of_ble_eq_true rfl, Nat.le_of_ble_eq_true rfl⟩ rfl hl.1 rfl (Nat.le_of_ble_eq_true rfl) dX1_report_1 ⟨Nat.le_of_ble_eq_true rfl, Nat.le_of_ble_eq_true rfl⟩ ?_
  refine lv_if_ne (tgt := 9) hx hb dX1_report_4 (by decide) (fun c4 => ?_) (fun c4 => ?_)
  · have b4 := bI_nz c4
    refine lv_aload_n hx hb dX1_report_9 rfl (lv_at hl 0 rfl) ?_
    refine va_get (D := (dC, dI)) (ci := 1) (v := .ref a2) (C := RX1) (T := TX1) (N := 8) hx hb hts iwsX1_report hown hK hP 0 rfl rfl 3 (by decide) (hts (.fieldLink RX1 13 "BranchTimesModel" "reportAt" "[I") (by decide +kernel)) (fun _ h9 => h9) rfl dX1_report_10 ?_
    refine lv_iload_n hx hb dX1_report_13 rfl (lv_at hl 1 rfl) ?_
    refine lv_aload_n hx hb dX1_report_14 rfl (lv_at hl 0 rfl) ?_
    refine va_get (D := (dC, dI)) (ci := 1) (v := .int tm) (C := RX1) (T := TX1) (N := 8) hx hb hts iwsX1_report hown hK hP 0 rfl rfl 1 (by decide) (hts (.fieldLink RX1 39 "BranchTimesModel" "time" "I") (by decide +kernel)) (fun _ h9 => h9) rfl dX1_report_15 ?_
    refine va_iast (D := (dC, dI)) hx hb hK hP hD hS 2 0 rfl rfl (G_in b4) dX1_report_18 (fun H locs hP hD hS => ?_)
    have hP : va_P (dC, dI) vwCl (wM h a1 a2 a3 a4 a5 a6 cA me tm hA (upd rA g.toNatClampNeg tm) lT jA pT cF) H := hP
    have hD : va_D A (wM h a1 a2 a3 a4 a5 a6 cA me tm hA (upd rA g.toNatClampNeg tm) lT jA pT cF) := hD
    refine lv_aload_n hx hb dX1_report_19 rfl (lv_at hl 0 rfl) ?_
    refine va_get (D := (dC, dI)) (ci := 1) (v := .ref a3) (C := RX1) (T := TX1) (N := 8) hx hb hts iwsX1_report hown hK hP 0 rfl rfl 4 (by decide) (hts (.fieldLink RX1 16 "BranchTimesModel" "leftTill" "[I") (by decide +kernel)) (fun _ h9 => h9) rfl dX1_report_20 ?_
    refine lv_iload_n hx hb dX1_report_23 rfl (lv_at hl 1 rfl) ?_
    refine lv_ldc (v := 1000000) hx hb hown (hts (.constant RX1 47 (1000000)) (by decide +kernel)) dX1_report_24 ?_
    refine va_iast (D := (dC, dI)) hx hb hK hP hD hS 3 0 rfl rfl (G_in b4) dX1_report_26 (fun H locs hP hD hS => ?_)
    have hP : va_P (dC, dI) vwCl (wM h a1 a2 a3 a4 a5 a6 cA me tm hA (upd rA g.toNatClampNeg tm) (upd lT g.toNatClampNeg ((1000000 : Int32))) jA pT cF) H := hP
    have hD : va_D A (wM h a1 a2 a3 a4 a5 a6 cA me tm hA (upd rA g.toNatClampNeg tm) (upd lT g.toNatClampNeg ((1000000 : Int32))) jA pT cF) := hD
    refine lv_iconst (v := 1) hx hb dX1_report_27 (by decide) ?_
    have e3 : mReA tm rA g = upd rA g.toNatClampNeg tm := by simp [mReA, mReT, bI, b4]
    have e4 : mReT lT g = upd lT g.toNatClampNeg ((1000000 : Int32)) := by simp [mReA, mReT, bI, b4]
    have hP9 : va_P (dC, dI) vwCl (wM h a1 a2 a3 a4 a5 a6 cA me tm hA (mReA tm rA g) (mReT lT g) jA pT cF) H := by rw [e3, e4]; exact hP
    have er : (1 : Int32) = bI (xG g) := by simp [mReA, mReT, bI, b4]
    exact W.zret (v := (1 : Int32)) (ty := .boolean) hx hb hr rfl (fun t ht hW => ⟨⟨_, (), rfl, er, by dsimp only; rw [ht]; exact hP9⟩, by rw [hQ9]; exact hS.F ht⟩) hS.2.2 dX1_report_28
  · have b4 := bI_z c4
    refine lv_iconst (v := 0) hx hb dX1_report_7 (by decide) ?_
    have e3 : mReA tm rA g = rA := by simp [mReA, mReT, bI, b4]
    have e4 : mReT lT g = lT := by simp [mReA, mReT, bI, b4]
    have hP9 : va_P (dC, dI) vwCl (wM h a1 a2 a3 a4 a5 a6 cA me tm hA (mReA tm rA g) (mReT lT g) jA pT cF) s.heap := by rw [e3, e4]; exact hP
    have er : (0 : Int32) = bI (xG g) := by simp [mReA, mReT, bI, b4]
    exact W.zret (v := (0 : Int32)) (ty := .boolean) hx hb hr rfl (fun t ht hW => ⟨⟨_, (), rfl, er, by dsimp only; rw [ht]; exact hP9⟩, by rw [hQ9]; exact hS.F ht⟩) hS.2.2 dX1_report_8
theorem hd_X1_report : yX1_report.cls = RX1 ∧ yX1_report.cls ≠ "java/lang/invoke/MethodHandle" ∧ yX1_report.cls ≠ "java/lang/invoke/VarHandle" ∧ (parseMethodDescriptor yX1_report.desc).map (fun d => d.parameters.length) = some 1 := by decide +kernel

theorem iwsX1_leave : ∀ w ∈ u_ws RX1 TX1 8, w ∈ wsX1_leave := fun _ h => List.mem_cons_of_mem _ (List.mem_append_right _ h)
set_option maxHeartbeats 4000000 in
set_option maxRecDepth 100000 in
theorem c_X1_leave (l : Launch) (dC : Nat → ClassId) (dI : Nat → Nat → Nat) (h a1 a2 a3 a4 a5 a6 : Nat) (cA : ClassId) (me tm : Int32) (hA rA lT jA pT cF : Nat → Int32) (g : Int32) (hme : ¬ ((1 : Int32) <<< (me &&& 31)) = 0) (sz : Nat) : Met l yX1_leave wsX1_leave ({ frames := 2, cells := 0, slots := 0, locals := 42 }) (PW [.ref h, .int g] dC dI cA (wM h a1 a2 a3 a4 a5 a6 cA me tm hA rA lT jA pT cF) sz) (QWi dC dI (bI (mLeB me tm hA rA lT g)) (wM h a1 a2 a3 a4 a5 a6 cA me tm hA rA lT jA pT cF) (wM h a1 a2 a3 a4 a5 a6 cA me tm hA rA (mLeT me tm hA rA lT g) jA pT cF) sz) 0 0 (va_A (wM h a1 a2 a3 a4 a5 a6 cA me tm hA rA lT jA pT cF) sz) := by
  refine Met.ofW (cc := cX1_leave) (maxL := 2) (ret := some .boolean) (by decide) rfl ?_
  intro p e s m args below meth c s₁ B hml hv
  obtain ⟨rfl, hsz, hP, hK, hD0⟩ := hv
  have hx := B.exec
  have hb := B.bytes
  have hr := B.returns
  have hts := atoms_spec (ws := wsX1_leave) B.pre
  have hown : s.vm.findClass RX1 = some m.cls := findClass_of_methodNamed B.named
  have hlocks := B.notSynchronized
  have S : CallFix p m c cX1_leave 2 s ([.ref h, .int g] : List Value).toArray wsX1_leave RX1 := ⟨hx, hb, hml, hown, hts⟩
  subst hsz
  have hD := hD0.self (sz := s.heap.size)
  generalize hAe : va_A (wM h a1 a2 a3 a4 a5 a6 cA me tm hA rA lT jA pT cF) s.heap.size = A at hD ⊢
  have hAA : ∀ q : Nat, s.heap.size ≤ q → A q := fun q h => by rw [← hAe]; exact Or.inr h
  have hS : va_S A s.heap s.heap [] := va_S.rf
  have hQ9 := hAe
  have hl := lv_entry ([.ref h, .int g]) (n := 2) (Nat.le_of_ble_eq_true rfl)
  rw [lg_entry_eq]
  generalize (lg_sl ([.ref h, .int g]) ++ List.replicate (2 - (lg_sl ([.ref h, .int g])).length) Slot.unset).toArray = ls at hl ⊢
  have hl : lv_has ls 2 [(0, .ref h), (1, .int g)] := hl
  refine lv_iload_n hx hb dX1_leave_0 rfl (lv_at hl 1 rfl) ?_
  refine rd_S (As := [.int g]) (rest := []) S (c_X1_isGroup l g) gX1_leave_X1_isGroup rfl ⟨rfl, rfl⟩ hd_X1_isGroup ⟨Nat.le_of_ble_eq_true rfl, Nat.le_of_ble_eq_true rfl⟩ rfl hl.1 rfl (Nat.le_of_ble_eq_true rfl) dX1_leave_1 ⟨Nat.le_of_ble_eq_true rfl, Nat.le_of_ble_eq_true rfl⟩ ?_
  refine lv_if_eq (tgt := 22) hx hb dX1_leave_4 (by decide) (fun c4 => ?_) (fun c4 => ?_)
  · have b4 := bI_z c4
    refine lv_iconst (v := 0) hx hb dX1_leave_22 (by decide) ?_
    have e4 : mLeT me tm hA rA lT g = lT := by simp [mLeB, mLeT, bI, b4]
    have hP9 : va_P (dC, dI) vwCl (wM h a1 a2 a3 a4 a5 a6 cA me tm hA rA (mLeT me tm hA rA lT g) jA pT cF) s.heap := by rw [e4]; exact hP
    have er : (0 : Int32) = bI (mLeB me tm hA rA lT g) := by simp [mLeB, mLeT, bI, b4]
    exact W.zret (v := (0 : Int32)) (ty := .boolean) hx hb hr rfl (fun t ht hW => ⟨⟨_, (), rfl, er, by dsimp only; rw [ht]; exact hP9⟩, by rw [hQ9]; exact hS.F ht⟩) hS.2.2 dX1_leave_23
  · have b4 := bI_nz c4
    refine lv_aload_n hx hb dX1_leave_7 rfl (lv_at hl 0 rfl) ?_
    refine lv_iload_n hx hb dX1_leave_8 rfl (lv_at hl 1 rfl) ?_
    refine rd_V (As := [.int g]) (rest := []) (ci := 1) (qc := (RX1, TX1, 8)) S (c_X1_memberTill l dC dI h a1 a2 a3 a4 a5 a6 cA me tm hA rA lT jA pT cF g b4) gX1_leave_X1_memberTill rfl ⟨rfl, rfl⟩ hd_X1_memberTill ⟨Nat.le_of_ble_eq_true rfl, Nat.le_of_ble_eq_true rfl⟩ hK hP rfl rfl rfl hl.1 rfl (Nat.le_of_ble_eq_true rfl) dX1_leave_9 ⟨Nat.le_of_ble_eq_true rfl, Nat.le_of_ble_eq_true rfl⟩ ?_
    refine lv_if_eq (tgt := 22) hx hb dX1_leave_12 (by decide) (fun c12 => ?_) (fun c12 => ?_)
    · refine lv_iconst (v := 0) hx hb dX1_leave_22 (by decide) ?_
      have e4 : mLeT me tm hA rA lT g = lT := by simp [mLeB, mLeT, bI, b4, c12]
      have hP9 : va_P (dC, dI) vwCl (wM h a1 a2 a3 a4 a5 a6 cA me tm hA rA (mLeT me tm hA rA lT g) jA pT cF) s.heap := by rw [e4]; exact hP
      have er : (0 : Int32) = bI (mLeB me tm hA rA lT g) := by simp [mLeB, mLeT, bI, b4, c12]
      exact W.zret (v := (0 : Int32)) (ty := .boolean) hx hb hr rfl (fun t ht hW => ⟨⟨_, (), rfl, er, by dsimp only; rw [ht]; exact hP9⟩, by rw [hQ9]; exact hS.F ht⟩) hS.2.2 dX1_leave_23
    · refine lv_aload_n hx hb dX1_leave_15 rfl (lv_at hl 0 rfl) ?_
      refine rd_V (As := []) (rest := []) (ci := 1) (qc := (RX1, TX1, 8)) S (c_X1_isAsking l dC dI h a1 a2 a3 a4 a5 a6 cA me tm hA rA lT jA pT cF hme) gX1_leave_X1_isAsking rfl ⟨rfl, rfl⟩ hd_X1_isAsking ⟨Nat.le_of_ble_eq_true rfl, Nat.le_of_ble_eq_true rfl⟩ hK hP rfl rfl rfl hl.1 rfl (Nat.le_of_ble_eq_true rfl) dX1_leave_16 ⟨Nat.le_of_ble_eq_true rfl, Nat.le_of_ble_eq_true rfl⟩ ?_
      refine lv_if_ne (tgt := 24) hx hb dX1_leave_19 (by decide) (fun c19 => ?_) (fun c19 => ?_)
      · have b19 := bI_nz c19
        refine lv_aload_n hx hb dX1_leave_24 rfl (lv_at hl 0 rfl) ?_
        refine va_get (D := (dC, dI)) (ci := 1) (v := .ref a3) (C := RX1) (T := TX1) (N := 8) hx hb hts iwsX1_leave hown hK hP 0 rfl rfl 4 (by decide) (hts (.fieldLink RX1 16 "BranchTimesModel" "leftTill" "[I") (by decide +kernel)) (fun _ h9 => h9) rfl dX1_leave_25 ?_
        refine lv_iload_n hx hb dX1_leave_28 rfl (lv_at hl 1 rfl) ?_
        refine lv_aload_n hx hb dX1_leave_29 rfl (lv_at hl 0 rfl) ?_
        refine va_get (D := (dC, dI)) (ci := 1) (v := .int tm) (C := RX1) (T := TX1) (N := 8) hx hb hts iwsX1_leave hown hK hP 0 rfl rfl 1 (by decide) (hts (.fieldLink RX1 39 "BranchTimesModel" "time" "I") (by decide +kernel)) (fun _ h9 => h9) rfl dX1_leave_30 ?_
        refine lv_iconst (v := 4) hx hb dX1_leave_33 (by decide) ?_
        refine lv_iadd hx hb dX1_leave_34 ?_
        refine lv_aload_n hx hb dX1_leave_35 rfl (lv_at hl 0 rfl) ?_
        refine va_get (D := (dC, dI)) (ci := 1) (v := .ref a3) (C := RX1) (T := TX1) (N := 8) hx hb hts iwsX1_leave hown hK hP 0 rfl rfl 4 (by decide) (hts (.fieldLink RX1 16 "BranchTimesModel" "leftTill" "[I") (by decide +kernel)) (fun _ h9 => h9) rfl dX1_leave_36 ?_
        refine lv_iload_n hx hb dX1_leave_39 rfl (lv_at hl 1 rfl) ?_
        refine va_iald (D := (dC, dI)) hx hb hK hP 3 0 rfl rfl (G_in b4) dX1_leave_40 ?_
        refine lv_icmp_ge (tgt := 53) hx hb dX1_leave_41 (by decide) (fun c41 => ?_) (fun c41 => ?_)
        · refine lv_aload_n hx hb dX1_leave_53 rfl (lv_at hl 0 rfl) ?_
          refine va_get (D := (dC, dI)) (ci := 1) (v := .ref a3) (C := RX1) (T := TX1) (N := 8) hx hb hts iwsX1_leave hown hK hP 0 rfl rfl 4 (by decide) (hts (.fieldLink RX1 16 "BranchTimesModel" "leftTill" "[I") (by decide +kernel)) (fun _ h9 => h9) rfl dX1_leave_54 ?_
          refine lv_iload_n hx hb dX1_leave_57 rfl (lv_at hl 1 rfl) ?_
          refine va_iald (D := (dC, dI)) hx hb hK hP 3 0 rfl rfl (G_in b4) dX1_leave_58 ?_
          refine lv_top (x' := mMin (tm + 4) (lT g.toNatClampNeg)) (by simp [mMin, c41]) ?_
          refine va_iast (D := (dC, dI)) hx hb hK hP hD hS 3 0 rfl rfl (G_in b4) dX1_leave_59 (fun H locs hP hD hS => ?_)
          have hP : va_P (dC, dI) vwCl (wM h a1 a2 a3 a4 a5 a6 cA me tm hA rA (upd lT g.toNatClampNeg (mMin (tm + 4) (lT g.toNatClampNeg))) jA pT cF) H := hP
          have hD : va_D A (wM h a1 a2 a3 a4 a5 a6 cA me tm hA rA (upd lT g.toNatClampNeg (mMin (tm + 4) (lT g.toNatClampNeg))) jA pT cF) := hD
          refine lv_iconst (v := 1) hx hb dX1_leave_60 (by decide) ?_
          have e4 : mLeT me tm hA rA lT g = upd lT g.toNatClampNeg (mMin (tm + 4) (lT g.toNatClampNeg)) := by simp [mLeB, mLeT, bI, b4, c12, b19, c41]
          have hP9 : va_P (dC, dI) vwCl (wM h a1 a2 a3 a4 a5 a6 cA me tm hA rA (mLeT me tm hA rA lT g) jA pT cF) H := by rw [e4]; exact hP
          have er : (1 : Int32) = bI (mLeB me tm hA rA lT g) := by simp [mLeB, mLeT, bI, b4, c12, b19, c41]
          exact W.zret (v := (1 : Int32)) (ty := .boolean) hx hb hr rfl (fun t ht hW => ⟨⟨_, (), rfl, er, by dsimp only; rw [ht]; exact hP9⟩, by rw [hQ9]; exact hS.F ht⟩) hS.2.2 dX1_leave_61
        · refine lv_aload_n hx hb dX1_leave_44 rfl (lv_at hl 0 rfl) ?_
          refine va_get (D := (dC, dI)) (ci := 1) (v := .int tm) (C := RX1) (T := TX1) (N := 8) hx hb hts iwsX1_leave hown hK hP 0 rfl rfl 1 (by decide) (hts (.fieldLink RX1 39 "BranchTimesModel" "time" "I") (by decide +kernel)) (fun _ h9 => h9) rfl dX1_leave_45 ?_
          refine lv_iconst (v := 4) hx hb dX1_leave_48 (by decide) ?_
          refine lv_iadd hx hb dX1_leave_49 ?_
          refine lv_goto (tgt := 59) hx hb dX1_leave_50 (by decide) ?_
          refine lv_top (x' := mMin (tm + 4) (lT g.toNatClampNeg)) (by simp [mMin, c41]) ?_
          refine va_iast (D := (dC, dI)) hx hb hK hP hD hS 3 0 rfl rfl (G_in b4) dX1_leave_59 (fun H locs hP hD hS => ?_)
          have hP : va_P (dC, dI) vwCl (wM h a1 a2 a3 a4 a5 a6 cA me tm hA rA (upd lT g.toNatClampNeg (mMin (tm + 4) (lT g.toNatClampNeg))) jA pT cF) H := hP
          have hD : va_D A (wM h a1 a2 a3 a4 a5 a6 cA me tm hA rA (upd lT g.toNatClampNeg (mMin (tm + 4) (lT g.toNatClampNeg))) jA pT cF) := hD
          refine lv_iconst (v := 1) hx hb dX1_leave_60 (by decide) ?_
          have e4 : mLeT me tm hA rA lT g = upd lT g.toNatClampNeg (mMin (tm + 4) (lT g.toNatClampNeg)) := by simp [mLeB, mLeT, bI, b4, c12, b19, c41]
          have hP9 : va_P (dC, dI) vwCl (wM h a1 a2 a3 a4 a5 a6 cA me tm hA rA (mLeT me tm hA rA lT g) jA pT cF) H := by rw [e4]; exact hP
          have er : (1 : Int32) = bI (mLeB me tm hA rA lT g) := by simp [mLeB, mLeT, bI, b4, c12, b19, c41]
          exact W.zret (v := (1 : Int32)) (ty := .boolean) hx hb hr rfl (fun t ht hW => ⟨⟨_, (), rfl, er, by dsimp only; rw [ht]; exact hP9⟩, by rw [hQ9]; exact hS.F ht⟩) hS.2.2 dX1_leave_61
      · have b19 := bI_z c19
        refine lv_iconst (v := 0) hx hb dX1_leave_22 (by decide) ?_
        have e4 : mLeT me tm hA rA lT g = lT := by simp [mLeB, mLeT, bI, b4, c12, b19]
        have hP9 : va_P (dC, dI) vwCl (wM h a1 a2 a3 a4 a5 a6 cA me tm hA rA (mLeT me tm hA rA lT g) jA pT cF) s.heap := by rw [e4]; exact hP
        have er : (0 : Int32) = bI (mLeB me tm hA rA lT g) := by simp [mLeB, mLeT, bI, b4, c12, b19]
        exact W.zret (v := (0 : Int32)) (ty := .boolean) hx hb hr rfl (fun t ht hW => ⟨⟨_, (), rfl, er, by dsimp only; rw [ht]; exact hP9⟩, by rw [hQ9]; exact hS.F ht⟩) hS.2.2 dX1_leave_23
theorem hd_X1_leave : yX1_leave.cls = RX1 ∧ yX1_leave.cls ≠ "java/lang/invoke/MethodHandle" ∧ yX1_leave.cls ≠ "java/lang/invoke/VarHandle" ∧ (parseMethodDescriptor yX1_leave.desc).map (fun d => d.parameters.length) = some 1 := by decide +kernel

theorem iwsX1_prune : ∀ w ∈ u_ws RX1 TX1 8, w ∈ wsX1_prune := fun _ h => List.mem_cons_of_mem _ (List.mem_append_right _ h)
set_option maxHeartbeats 4000000 in
set_option maxRecDepth 100000 in
theorem c_X1_prune (l : Launch) (dC : Nat → ClassId) (dI : Nat → Nat → Nat) (h a1 a2 a3 a4 a5 a6 : Nat) (cA : ClassId) (me tm : Int32) (hA rA lT jA pT cF : Nat → Int32) (g q : Int32) (sz : Nat) : Met l yX1_prune wsX1_prune ({ frames := 2, cells := 0, slots := 0, locals := 44 }) (PW [.ref h, .int g, .int q] dC dI cA (wM h a1 a2 a3 a4 a5 a6 cA me tm hA rA lT jA pT cF) sz) (QWi dC dI (bI (mPrB tm jA pT g q)) (wM h a1 a2 a3 a4 a5 a6 cA me tm hA rA lT jA pT cF) (wM h a1 a2 a3 a4 a5 a6 cA me tm hA rA lT jA (mPrP tm hA jA pT g q) cF) sz) 0 0 (va_A (wM h a1 a2 a3 a4 a5 a6 cA me tm hA rA lT jA pT cF) sz) := by
  refine Met.ofW (cc := cX1_prune) (maxL := 5) (ret := some .boolean) (by decide) rfl ?_
  intro p e s m args below meth c s₁ B hml hv
  obtain ⟨rfl, hsz, hP, hK, hD0⟩ := hv
  have hx := B.exec
  have hb := B.bytes
  have hr := B.returns
  have hts := atoms_spec (ws := wsX1_prune) B.pre
  have hown : s.vm.findClass RX1 = some m.cls := findClass_of_methodNamed B.named
  have hlocks := B.notSynchronized
  have S : CallFix p m c cX1_prune 5 s ([.ref h, .int g, .int q] : List Value).toArray wsX1_prune RX1 := ⟨hx, hb, hml, hown, hts⟩
  subst hsz
  have hD := hD0.self (sz := s.heap.size)
  generalize hAe : va_A (wM h a1 a2 a3 a4 a5 a6 cA me tm hA rA lT jA pT cF) s.heap.size = A at hD ⊢
  have hAA : ∀ q : Nat, s.heap.size ≤ q → A q := fun q h => by rw [← hAe]; exact Or.inr h
  have hS : va_S A s.heap s.heap [] := va_S.rf
  have hQ9 := hAe
  have hl := lv_entry ([.ref h, .int g, .int q]) (n := 5) (Nat.le_of_ble_eq_true rfl)
  rw [lg_entry_eq]
  generalize (lg_sl ([.ref h, .int g, .int q]) ++ List.replicate (5 - (lg_sl ([.ref h, .int g, .int q])).length) Slot.unset).toArray = ls at hl ⊢
  have hl : lv_has ls 5 [(0, .ref h), (1, .int g), (2, .int q)] := hl
  refine lv_iload_n hx hb dX1_prune_0 rfl (lv_at hl 1 rfl) ?_
  refine lv_iload_n hx hb dX1_prune_1 rfl (lv_at hl 2 rfl) ?_
  refine rd_S (As := [.int g, .int q]) (rest := []) S (c_X1_isBranch l g q) gX1_prune_X1_isBranch rfl ⟨rfl, rfl⟩ hd_X1_isBranch ⟨Nat.le_of_ble_eq_true rfl, Nat.le_of_ble_eq_true rfl⟩ rfl hl.1 rfl (Nat.le_of_ble_eq_true rfl) dX1_prune_2 ⟨Nat.le_of_ble_eq_true rfl, Nat.le_of_ble_eq_true rfl⟩ ?_
  refine lv_if_eq (tgt := 17) hx hb dX1_prune_5 (by decide) (fun c5 => ?_) (fun c5 => ?_)
  · have b5 := bI_z c5
    refine lv_iconst (v := 0) hx hb dX1_prune_17 (by decide) ?_
    have e6 : mPrP tm hA jA pT g q = pT := by simp [mPrB, mPrP, bI, b5]
    have hP9 : va_P (dC, dI) vwCl (wM h a1 a2 a3 a4 a5 a6 cA me tm hA rA lT jA (mPrP tm hA jA pT g q) cF) s.heap := by rw [e6]; exact hP
    have er : (0 : Int32) = bI (mPrB tm jA pT g q) := by simp [mPrB, mPrP, bI, b5]
    exact W.zret (v := (0 : Int32)) (ty := .boolean) hx hb hr rfl (fun t ht hW => ⟨⟨_, (), rfl, er, by dsimp only; rw [ht]; exact hP9⟩, by rw [hQ9]; exact hS.F ht⟩) hS.2.2 dX1_prune_18
  · have b5 := bI_nz c5
    refine lv_aload_n hx hb dX1_prune_8 rfl (lv_at hl 0 rfl) ?_
    refine lv_iload_n hx hb dX1_prune_9 rfl (lv_at hl 1 rfl) ?_
    refine lv_iload_n hx hb dX1_prune_10 rfl (lv_at hl 2 rfl) ?_
    refine rd_V (As := [.int g, .int q]) (rest := []) (ci := 1) (qc := (RX1, TX1, 8)) S (c_X1_till l dC dI h a1 a2 a3 a4 a5 a6 cA me tm hA rA lT jA pT cF g q b5) gX1_prune_X1_till rfl ⟨rfl, rfl⟩ hd_X1_till ⟨Nat.le_of_ble_eq_true rfl, Nat.le_of_ble_eq_true rfl⟩ hK hP rfl rfl rfl hl.1 rfl (Nat.le_of_ble_eq_true rfl) dX1_prune_11 ⟨Nat.le_of_ble_eq_true rfl, Nat.le_of_ble_eq_true rfl⟩ ?_
    refine lv_if_ne (tgt := 19) hx hb dX1_prune_14 (by decide) (fun c14 => ?_) (fun c14 => ?_)
    · refine lv_bipush (v := 17) hx hb dX1_prune_19 (by decide) ?_
      refine lv_iload_n hx hb dX1_prune_21 rfl (lv_at hl 1 rfl) ?_
      refine lv_imul hx hb dX1_prune_22 ?_
      refine lv_iload_n hx hb dX1_prune_23 rfl (lv_at hl 2 rfl) ?_
      refine lv_iadd hx hb dX1_prune_24 ?_
      refine lv_iconst (v := 1) hx hb dX1_prune_25 (by decide) ?_
      refine lv_iadd hx hb dX1_prune_26 ?_
      refine lv_top (x' := mPl g q) (rfl) ?_
      refine lv_istore_n (lv' := [(3, .int (mPl g q)), (0, .ref h), (1, .int g), (2, .int q)]) hx hb dX1_prune_27 rfl hl (by decide) rfl (fun ls hl => ?_)
      refine lv_aload_n hx hb dX1_prune_28 rfl (lv_at hl 1 rfl) ?_
      refine rd_V (As := []) (rest := []) (ci := 1) (qc := (RX1, TX1, 8)) S (c_X1_isCrowded l dC dI h a1 a2 a3 a4 a5 a6 cA me tm hA rA lT jA pT cF) gX1_prune_X1_isCrowded rfl ⟨rfl, rfl⟩ hd_X1_isCrowded ⟨Nat.le_of_ble_eq_true rfl, Nat.le_of_ble_eq_true rfl⟩ hK hP rfl rfl rfl hl.1 rfl (Nat.le_of_ble_eq_true rfl) dX1_prune_29 ⟨Nat.le_of_ble_eq_true rfl, Nat.le_of_ble_eq_true rfl⟩ ?_
      refine lv_if_eq (tgt := 44) hx hb dX1_prune_32 (by decide) (fun c32 => ?_) (fun c32 => ?_)
      · have b32 := bI_z c32
        refine lv_aload_n hx hb dX1_prune_44 rfl (lv_at hl 1 rfl) ?_
        refine va_get (D := (dC, dI)) (ci := 1) (v := .int tm) (C := RX1) (T := TX1) (N := 8) hx hb hts iwsX1_prune hown hK hP 0 rfl rfl 1 (by decide) (hts (.fieldLink RX1 39 "BranchTimesModel" "time" "I") (by decide +kernel)) (fun _ h9 => h9) rfl dX1_prune_45 ?_
        refine lv_top (x' := mEff tm (mNb tm hA)) (by simp [mEff, b32]) ?_
        refine lv_istore (lv' := [(4, .int (mEff tm (mNb tm hA))), (3, .int (mPl g q)), (0, .ref h), (1, .int g), (2, .int q)]) hx hb dX1_prune_48 hl (by decide) rfl (fun ls hl => ?_)
        refine lv_aload_n hx hb dX1_prune_50 rfl (lv_at hl 2 rfl) ?_
        refine va_get (D := (dC, dI)) (ci := 1) (v := .ref a5) (C := RX1) (T := TX1) (N := 8) hx hb hts iwsX1_prune hown hK hP 0 rfl rfl 6 (by decide) (hts (.fieldLink RX1 22 "BranchTimesModel" "prunedTill" "[I") (by decide +kernel)) (fun _ h9 => h9) rfl dX1_prune_51 ?_
        refine lv_iload_n hx hb dX1_prune_54 rfl (lv_at hl 1 rfl) ?_
        refine lv_iload hx hb dX1_prune_55 (lv_at hl 0 rfl) ?_
        refine lv_aload_n hx hb dX1_prune_57 rfl (lv_at hl 2 rfl) ?_
        refine va_get (D := (dC, dI)) (ci := 1) (v := .ref a5) (C := RX1) (T := TX1) (N := 8) hx hb hts iwsX1_prune hown hK hP 0 rfl rfl 6 (by decide) (hts (.fieldLink RX1 22 "BranchTimesModel" "prunedTill" "[I") (by decide +kernel)) (fun _ h9 => h9) rfl dX1_prune_58 ?_
        refine lv_iload_n hx hb dX1_prune_61 rfl (lv_at hl 1 rfl) ?_
        refine va_iald (D := (dC, dI)) hx hb hK hP 5 0 rfl rfl (mPl_in b5) dX1_prune_62 ?_
        refine lv_icmp_ge (tgt := 71) hx hb dX1_prune_63 (by decide) (fun c63 => ?_) (fun c63 => ?_)
        · refine lv_aload_n hx hb dX1_prune_71 rfl (lv_at hl 2 rfl) ?_
          refine va_get (D := (dC, dI)) (ci := 1) (v := .ref a5) (C := RX1) (T := TX1) (N := 8) hx hb hts iwsX1_prune hown hK hP 0 rfl rfl 6 (by decide) (hts (.fieldLink RX1 22 "BranchTimesModel" "prunedTill" "[I") (by decide +kernel)) (fun _ h9 => h9) rfl dX1_prune_72 ?_
          refine lv_iload_n hx hb dX1_prune_75 rfl (lv_at hl 1 rfl) ?_
          refine va_iald (D := (dC, dI)) hx hb hK hP 5 0 rfl rfl (mPl_in b5) dX1_prune_76 ?_
          refine lv_top (x' := mMin (mEff tm (mNb tm hA)) (pT (mPl g q).toNatClampNeg)) (by simp [mMin, c63]) ?_
          refine va_iast (D := (dC, dI)) hx hb hK hP hD hS 5 0 rfl rfl (mPl_in b5) dX1_prune_77 (fun H locs hP hD hS => ?_)
          have hP : va_P (dC, dI) vwCl (wM h a1 a2 a3 a4 a5 a6 cA me tm hA rA lT jA (upd pT (mPl g q).toNatClampNeg (mMin (mEff tm (mNb tm hA)) (pT (mPl g q).toNatClampNeg))) cF) H := hP
          have hD : va_D A (wM h a1 a2 a3 a4 a5 a6 cA me tm hA rA lT jA (upd pT (mPl g q).toNatClampNeg (mMin (mEff tm (mNb tm hA)) (pT (mPl g q).toNatClampNeg))) cF) := hD
          refine lv_iconst (v := 1) hx hb dX1_prune_78 (by decide) ?_
          have e6 : mPrP tm hA jA pT g q = upd pT (mPl g q).toNatClampNeg (mMin (mEff tm (mNb tm hA)) (pT (mPl g q).toNatClampNeg)) := by simp [mPrB, mPrP, bI, b5, c14, b32, c63]
          have hP9 : va_P (dC, dI) vwCl (wM h a1 a2 a3 a4 a5 a6 cA me tm hA rA lT jA (mPrP tm hA jA pT g q) cF) H := by rw [e6]; exact hP
          have er : (1 : Int32) = bI (mPrB tm jA pT g q) := by simp [mPrB, mPrP, bI, b5, c14, b32, c63]
          exact W.zret (v := (1 : Int32)) (ty := .boolean) hx hb hr rfl (fun t ht hW => ⟨⟨_, (), rfl, er, by dsimp only; rw [ht]; exact hP9⟩, by rw [hQ9]; exact hS.F ht⟩) hS.2.2 dX1_prune_79
        · refine lv_iload hx hb dX1_prune_66 (lv_at hl 0 rfl) ?_
          refine lv_goto (tgt := 77) hx hb dX1_prune_68 (by decide) ?_
          refine lv_top (x' := mMin (mEff tm (mNb tm hA)) (pT (mPl g q).toNatClampNeg)) (by simp [mMin, c63]) ?_
          refine va_iast (D := (dC, dI)) hx hb hK hP hD hS 5 0 rfl rfl (mPl_in b5) dX1_prune_77 (fun H locs hP hD hS => ?_)
          have hP : va_P (dC, dI) vwCl (wM h a1 a2 a3 a4 a5 a6 cA me tm hA rA lT jA (upd pT (mPl g q).toNatClampNeg (mMin (mEff tm (mNb tm hA)) (pT (mPl g q).toNatClampNeg))) cF) H := hP
          have hD : va_D A (wM h a1 a2 a3 a4 a5 a6 cA me tm hA rA lT jA (upd pT (mPl g q).toNatClampNeg (mMin (mEff tm (mNb tm hA)) (pT (mPl g q).toNatClampNeg))) cF) := hD
          refine lv_iconst (v := 1) hx hb dX1_prune_78 (by decide) ?_
          have e6 : mPrP tm hA jA pT g q = upd pT (mPl g q).toNatClampNeg (mMin (mEff tm (mNb tm hA)) (pT (mPl g q).toNatClampNeg)) := by simp [mPrB, mPrP, bI, b5, c14, b32, c63]
          have hP9 : va_P (dC, dI) vwCl (wM h a1 a2 a3 a4 a5 a6 cA me tm hA rA lT jA (mPrP tm hA jA pT g q) cF) H := by rw [e6]; exact hP
          have er : (1 : Int32) = bI (mPrB tm jA pT g q) := by simp [mPrB, mPrP, bI, b5, c14, b32, c63]
          exact W.zret (v := (1 : Int32)) (ty := .boolean) hx hb hr rfl (fun t ht hW => ⟨⟨_, (), rfl, er, by dsimp only; rw [ht]; exact hP9⟩, by rw [hQ9]; exact hS.F ht⟩) hS.2.2 dX1_prune_79
      · have b32 := bI_nz c32
        refine lv_aload_n hx hb dX1_prune_35 rfl (lv_at hl 1 rfl) ?_
        refine va_get (D := (dC, dI)) (ci := 1) (v := .int tm) (C := RX1) (T := TX1) (N := 8) hx hb hts iwsX1_prune hown hK hP 0 rfl rfl 1 (by decide) (hts (.fieldLink RX1 39 "BranchTimesModel" "time" "I") (by decide +kernel)) (fun _ h9 => h9) rfl dX1_prune_36 ?_
        refine lv_iconst (v := 3) hx hb dX1_prune_39 (by decide) ?_
        refine lv_iadd hx hb dX1_prune_40 ?_
        refine lv_goto (tgt := 48) hx hb dX1_prune_41 (by decide) ?_
        refine lv_top (x' := mEff tm (mNb tm hA)) (by simp [mEff, b32]) ?_
        refine lv_istore (lv' := [(4, .int (mEff tm (mNb tm hA))), (3, .int (mPl g q)), (0, .ref h), (1, .int g), (2, .int q)]) hx hb dX1_prune_48 hl (by decide) rfl (fun ls hl => ?_)
        refine lv_aload_n hx hb dX1_prune_50 rfl (lv_at hl 2 rfl) ?_
        refine va_get (D := (dC, dI)) (ci := 1) (v := .ref a5) (C := RX1) (T := TX1) (N := 8) hx hb hts iwsX1_prune hown hK hP 0 rfl rfl 6 (by decide) (hts (.fieldLink RX1 22 "BranchTimesModel" "prunedTill" "[I") (by decide +kernel)) (fun _ h9 => h9) rfl dX1_prune_51 ?_
        refine lv_iload_n hx hb dX1_prune_54 rfl (lv_at hl 1 rfl) ?_
        refine lv_iload hx hb dX1_prune_55 (lv_at hl 0 rfl) ?_
        refine lv_aload_n hx hb dX1_prune_57 rfl (lv_at hl 2 rfl) ?_
        refine va_get (D := (dC, dI)) (ci := 1) (v := .ref a5) (C := RX1) (T := TX1) (N := 8) hx hb hts iwsX1_prune hown hK hP 0 rfl rfl 6 (by decide) (hts (.fieldLink RX1 22 "BranchTimesModel" "prunedTill" "[I") (by decide +kernel)) (fun _ h9 => h9) rfl dX1_prune_58 ?_
        refine lv_iload_n hx hb dX1_prune_61 rfl (lv_at hl 1 rfl) ?_
        refine va_iald (D := (dC, dI)) hx hb hK hP 5 0 rfl rfl (mPl_in b5) dX1_prune_62 ?_
        refine lv_icmp_ge (tgt := 71) hx hb dX1_prune_63 (by decide) (fun c63 => ?_) (fun c63 => ?_)
        · refine lv_aload_n hx hb dX1_prune_71 rfl (lv_at hl 2 rfl) ?_
          refine va_get (D := (dC, dI)) (ci := 1) (v := .ref a5) (C := RX1) (T := TX1) (N := 8) hx hb hts iwsX1_prune hown hK hP 0 rfl rfl 6 (by decide) (hts (.fieldLink RX1 22 "BranchTimesModel" "prunedTill" "[I") (by decide +kernel)) (fun _ h9 => h9) rfl dX1_prune_72 ?_
          refine lv_iload_n hx hb dX1_prune_75 rfl (lv_at hl 1 rfl) ?_
          refine va_iald (D := (dC, dI)) hx hb hK hP 5 0 rfl rfl (mPl_in b5) dX1_prune_76 ?_
          refine lv_top (x' := mMin (mEff tm (mNb tm hA)) (pT (mPl g q).toNatClampNeg)) (by simp [mMin, c63]) ?_
          refine va_iast (D := (dC, dI)) hx hb hK hP hD hS 5 0 rfl rfl (mPl_in b5) dX1_prune_77 (fun H locs hP hD hS => ?_)
          have hP : va_P (dC, dI) vwCl (wM h a1 a2 a3 a4 a5 a6 cA me tm hA rA lT jA (upd pT (mPl g q).toNatClampNeg (mMin (mEff tm (mNb tm hA)) (pT (mPl g q).toNatClampNeg))) cF) H := hP
          have hD : va_D A (wM h a1 a2 a3 a4 a5 a6 cA me tm hA rA lT jA (upd pT (mPl g q).toNatClampNeg (mMin (mEff tm (mNb tm hA)) (pT (mPl g q).toNatClampNeg))) cF) := hD
          refine lv_iconst (v := 1) hx hb dX1_prune_78 (by decide) ?_
          have e6 : mPrP tm hA jA pT g q = upd pT (mPl g q).toNatClampNeg (mMin (mEff tm (mNb tm hA)) (pT (mPl g q).toNatClampNeg)) := by simp [mPrB, mPrP, bI, b5, c14, b32, c63]
          have hP9 : va_P (dC, dI) vwCl (wM h a1 a2 a3 a4 a5 a6 cA me tm hA rA lT jA (mPrP tm hA jA pT g q) cF) H := by rw [e6]; exact hP
          have er : (1 : Int32) = bI (mPrB tm jA pT g q) := by simp [mPrB, mPrP, bI, b5, c14, b32, c63]
          exact W.zret (v := (1 : Int32)) (ty := .boolean) hx hb hr rfl (fun t ht hW => ⟨⟨_, (), rfl, er, by dsimp only; rw [ht]; exact hP9⟩, by rw [hQ9]; exact hS.F ht⟩) hS.2.2 dX1_prune_79
        · refine lv_iload hx hb dX1_prune_66 (lv_at hl 0 rfl) ?_
          refine lv_goto (tgt := 77) hx hb dX1_prune_68 (by decide) ?_
          refine lv_top (x' := mMin (mEff tm (mNb tm hA)) (pT (mPl g q).toNatClampNeg)) (by simp [mMin, c63]) ?_
          refine va_iast (D := (dC, dI)) hx hb hK hP hD hS 5 0 rfl rfl (mPl_in b5) dX1_prune_77 (fun H locs hP hD hS => ?_)
          have hP : va_P (dC, dI) vwCl (wM h a1 a2 a3 a4 a5 a6 cA me tm hA rA lT jA (upd pT (mPl g q).toNatClampNeg (mMin (mEff tm (mNb tm hA)) (pT (mPl g q).toNatClampNeg))) cF) H := hP
          have hD : va_D A (wM h a1 a2 a3 a4 a5 a6 cA me tm hA rA lT jA (upd pT (mPl g q).toNatClampNeg (mMin (mEff tm (mNb tm hA)) (pT (mPl g q).toNatClampNeg))) cF) := hD
          refine lv_iconst (v := 1) hx hb dX1_prune_78 (by decide) ?_
          have e6 : mPrP tm hA jA pT g q = upd pT (mPl g q).toNatClampNeg (mMin (mEff tm (mNb tm hA)) (pT (mPl g q).toNatClampNeg)) := by simp [mPrB, mPrP, bI, b5, c14, b32, c63]
          have hP9 : va_P (dC, dI) vwCl (wM h a1 a2 a3 a4 a5 a6 cA me tm hA rA lT jA (mPrP tm hA jA pT g q) cF) H := by rw [e6]; exact hP
          have er : (1 : Int32) = bI (mPrB tm jA pT g q) := by simp [mPrB, mPrP, bI, b5, c14, b32, c63]
          exact W.zret (v := (1 : Int32)) (ty := .boolean) hx hb hr rfl (fun t ht hW => ⟨⟨_, (), rfl, er, by dsimp only; rw [ht]; exact hP9⟩, by rw [hQ9]; exact hS.F ht⟩) hS.2.2 dX1_prune_79
    · refine lv_iconst (v := 0) hx hb dX1_prune_17 (by decide) ?_
      have e6 : mPrP tm hA jA pT g q = pT := by simp [mPrB, mPrP, bI, b5, c14]
      have hP9 : va_P (dC, dI) vwCl (wM h a1 a2 a3 a4 a5 a6 cA me tm hA rA lT jA (mPrP tm hA jA pT g q) cF) s.heap := by rw [e6]; exact hP
      have er : (0 : Int32) = bI (mPrB tm jA pT g q) := by simp [mPrB, mPrP, bI, b5, c14]
      exact W.zret (v := (0 : Int32)) (ty := .boolean) hx hb hr rfl (fun t ht hW => ⟨⟨_, (), rfl, er, by dsimp only; rw [ht]; exact hP9⟩, by rw [hQ9]; exact hS.F ht⟩) hS.2.2 dX1_prune_18
theorem hd_X1_prune : yX1_prune.cls = RX1 ∧ yX1_prune.cls ≠ "java/lang/invoke/MethodHandle" ∧ yX1_prune.cls ≠ "java/lang/invoke/VarHandle" ∧ (parseMethodDescriptor yX1_prune.desc).map (fun d => d.parameters.length) = some 2 := by decide +kernel

theorem iwsX1_join : ∀ w ∈ u_ws RX1 TX1 8, w ∈ wsX1_join := fun _ h => List.mem_cons_of_mem _ (List.mem_append_right _ h)
set_option maxHeartbeats 4000000 in
set_option maxRecDepth 100000 in
theorem lp_X1_join_68 {p : Program} {e : Env} {s : State} {m : MethodId} {args : Array Value} {below : List Frame} {meth : Method} {c : Code} {cells slots : Nat} {Q : State → Prop} {A : Nat → Prop} {H0 : Heap} (l : Launch) (dC : Nat → ClassId) (dI : Nat → Nat → Nat) (h a1 a2 a3 a4 a5 a6 : Nat) (cA : ClassId) (me tm : Int32) (hA rA lT jA pT cF : Nat → Int32) (g q bits : Int32) (was : Bool) (hg : xG g = true) (S : CallFix p m c cX1_join 8 s args wsX1_join RX1) (hK : va_K (dC, dI) vwCl [(cA, .int)] s) (hAA : ∀ q, H0.size ≤ q → A q) (hcs : cells + 0 ≤ 0 ∧ slots + 0 ≤ 0) (k : ∀ (H : Heap) (locs : List Loc) (ls : Array Slot), va_P (dC, dI) vwCl (wM h a1 a2 a3 a4 a5 a6 cA me tm hA rA lT jA pT (mCutsI was cF g bits (mEff tm (mNb tm hA)) 16)) H → va_D A (wM h a1 a2 a3 a4 a5 a6 cA me tm hA rA lT jA pT (mCutsI was cF g bits (mEff tm (mNb tm hA)) 16)) → va_S A H0 H locs → lv_has ls 8 [(0, .ref h), (1, .int g), (2, .int q), (3, .int bits), (4, .int (bI was)), (5, .int (nI 16))] → W p l e ({ frames := 2, cells := 0, slots := 0, locals := 44 }) s m args below meth c H locs cells slots Q (F0 m 184 ls [])) : ∀ (n i : Nat), i + n = 16 → ∀ (H : Heap) (locs : List Loc) (ls : Array Slot), va_P (dC, dI) vwCl (wM h a1 a2 a3 a4 a5 a6 cA me tm hA rA lT jA pT (mCutsI was cF g bits (mEff tm (mNb tm hA)) i)) H → va_D A (wM h a1 a2 a3 a4 a5 a6 cA me tm hA rA lT jA pT (mCutsI was cF g bits (mEff tm (mNb tm hA)) i)) → va_S A H0 H locs → lv_has ls 8 [(0, .ref h), (1, .int g), (2, .int q), (3, .int bits), (4, .int (bI was)), (5, .int (nI i))] → W p l e ({ frames := 2, cells := 0, slots := 0, locals := 44 }) s m args below meth c H locs cells slots Q (F0 m 68 ls []) := by
  obtain ⟨hx, hb, hml, hown, hts⟩ := id S
  intro n
  induction n with
  | zero =>
    intro i hi H locs ls hP hD hS hl
    obtain rfl : i = 16 := by omega
    refine lv_iload hx hb dX1_join_68 (lv_at hl 5 rfl) ?_
    refine lv_bipush (v := 16) hx hb dX1_join_70 (by decide) ?_
    refine lv_icmp_ge (tgt := 184) hx hb dX1_join_72 (by decide) (fun c72 => ?_) (fun c72 => ?_)
    · exact k _ _ ls hP hD hS (lv_sub hl [0, 1, 2, 3, 4, 5] rfl)
    · exact absurd c72 (by decide)
  | succ n ih =>
    intro i hi H locs ls hP hD hS hl
    have hlt : i < 16 := by omega
    have hcl : (nI i).toNatClampNeg = i := nI_clamp (by omega)
    refine lv_iload hx hb dX1_join_68 (lv_at hl 5 rfl) ?_
    refine lv_bipush (v := 16) hx hb dX1_join_70 (by decide) ?_
    refine lv_icmp_ge (tgt := 184) hx hb dX1_join_72 (by decide) (fun c72 => ?_) (fun c72 => ?_)
    · exact absurd c72 (nI_ge hlt (by decide))
    · refine lv_iload_n hx hb dX1_join_75 rfl (lv_at hl 3 rfl) ?_
      refine lv_iload hx hb dX1_join_76 (lv_at hl 5 rfl) ?_
      refine lv_ishr hx hb dX1_join_78 ?_
      refine lv_iconst (v := 1) hx hb dX1_join_79 (by decide) ?_
      refine lv_iand hx hb dX1_join_80 ?_
      refine lv_iconst (v := 1) hx hb dX1_join_81 (by decide) ?_
      refine lv_icmp_ne (tgt := 89) hx hb dX1_join_82 (by decide) (fun c82 => ?_) (fun c82 => ?_)
      · refine lv_iconst (v := 0) hx hb dX1_join_89 (by decide) ?_
        refine lv_istore (lv' := [(6, .int ((0 : Int32))), (0, .ref h), (1, .int g), (2, .int q), (3, .int bits), (4, .int (bI was)), (5, .int (nI i))]) hx hb dX1_join_90 hl (by decide) rfl (fun ls hl => ?_)
        refine lv_iload hx hb dX1_join_92 (lv_at hl 5 rfl) ?_
        refine lv_if_eq (tgt := 113) hx hb dX1_join_94 (by decide) (fun c94 => ?_) (fun c94 => ?_)
        · have b94 := bI_z c94
          refine lv_iconst (v := 1) hx hb dX1_join_113 (by decide) ?_
          refine lv_goto (tgt := 118) hx hb dX1_join_114 (by decide) ?_
          refine lv_istore (lv' := [(7, .int ((1 : Int32))), (6, .int ((0 : Int32))), (0, .ref h), (1, .int g), (2, .int q), (3, .int bits), (4, .int (bI was)), (5, .int (nI i))]) hx hb dX1_join_118 hl (by decide) rfl (fun ls hl => ?_)
          refine lv_iload hx hb dX1_join_120 (lv_at hl 1 rfl) ?_
          refine lv_if_ne (tgt := 141) hx hb dX1_join_122 (by decide) (fun c122 => ?_) (fun c122 => ?_)
          · exact absurd c122 (by decide)
          · clear c122
            refine lv_aload_n hx hb dX1_join_125 rfl (lv_at hl 2 rfl) ?_
            refine va_get (D := (dC, dI)) (ci := 1) (v := .ref a6) (C := RX1) (T := TX1) (N := 8) hx hb hts iwsX1_join hown hK hP 0 rfl rfl 7 (by decide) (hts (.fieldLink RX1 25 "BranchTimesModel" "cutFrom" "[I") (by decide +kernel)) (fun _ h9 => h9) rfl dX1_join_126 ?_
            refine lv_bipush (v := 16) hx hb dX1_join_129 (by decide) ?_
            refine lv_iload_n hx hb dX1_join_131 rfl (lv_at hl 3 rfl) ?_
            refine lv_imul hx hb dX1_join_132 ?_
            refine lv_iload hx hb dX1_join_133 (lv_at hl 7 rfl) ?_
            refine lv_iadd hx hb dX1_join_135 ?_
            refine lv_top (x' := mCp g (nI i)) (rfl) ?_
            refine lv_iconst (v := -1) hx hb dX1_join_136 (by decide) ?_
            refine va_iast (D := (dC, dI)) hx hb hK hP hD hS 6 0 rfl rfl (mCp_in hg (xSrc_nI hlt)) dX1_join_137 (fun H locs hP hD hS => ?_)
            have hP : va_P (dC, dI) vwCl (wM h a1 a2 a3 a4 a5 a6 cA me tm hA rA lT jA pT (upd (mCutsI was cF g bits (mEff tm (mNb tm hA)) i) (mCp g (nI i)).toNatClampNeg ((-1 : Int32)))) H := hP
            have hD : va_D A (wM h a1 a2 a3 a4 a5 a6 cA me tm hA rA lT jA pT (upd (mCutsI was cF g bits (mEff tm (mNb tm hA)) i) (mCp g (nI i)).toNatClampNeg ((-1 : Int32)))) := hD
            refine lv_goto (tgt := 178) hx hb dX1_join_138 (by decide) ?_
            refine lv_iinc (v := nI (i + 1)) (lv' := [(5, .int (nI (i + 1))), (7, .int ((1 : Int32))), (6, .int ((0 : Int32))), (0, .ref h), (1, .int g), (2, .int q), (3, .int bits), (4, .int (bI was))]) hx hb dX1_join_178 hl (k := 7) rfl (nI_1 _) (by decide) rfl (fun ls hl => ?_)
            refine lv_goto (tgt := 68) hx hb dX1_join_181 (by decide) ?_
            exact ih (i + 1) (by omega) _ _ ls (by rw [mCutsI_n (decide_eq_false c82)]; exact hP) (by rw [mCutsI_n (decide_eq_false c82)]; exact hD) hS (lv_sub hl [3, 4, 5, 6, 7, 0] rfl)
        · have b94 := bI_nz c94
          refine lv_aload_n hx hb dX1_join_97 rfl (lv_at hl 1 rfl) ?_
          refine va_get (D := (dC, dI)) (ci := 1) (v := .ref a6) (C := RX1) (T := TX1) (N := 8) hx hb hts iwsX1_join hown hK hP 0 rfl rfl 7 (by decide) (hts (.fieldLink RX1 25 "BranchTimesModel" "cutFrom" "[I") (by decide +kernel)) (fun _ h9 => h9) rfl dX1_join_98 ?_
          refine lv_bipush (v := 16) hx hb dX1_join_101 (by decide) ?_
          refine lv_iload_n hx hb dX1_join_103 rfl (lv_at hl 2 rfl) ?_
          refine lv_imul hx hb dX1_join_104 ?_
          refine lv_iload hx hb dX1_join_105 (lv_at hl 6 rfl) ?_
          refine lv_iadd hx hb dX1_join_107 ?_
          refine lv_top (x' := mCp g (nI i)) (rfl) ?_
          refine va_iald (D := (dC, dI)) hx hb hK hP 6 0 rfl rfl (mCp_in hg (xSrc_nI hlt)) dX1_join_108 ?_
          refine lv_iconst (v := -1) hx hb dX1_join_109 (by decide) ?_
          refine lv_icmp_ne (tgt := 117) hx hb dX1_join_110 (by decide) (fun c110 => ?_) (fun c110 => ?_)
          · refine lv_iconst (v := 0) hx hb dX1_join_117 (by decide) ?_
            refine lv_istore (lv' := [(7, .int ((0 : Int32))), (6, .int ((0 : Int32))), (0, .ref h), (1, .int g), (2, .int q), (3, .int bits), (4, .int (bI was)), (5, .int (nI i))]) hx hb dX1_join_118 hl (by decide) rfl (fun ls hl => ?_)
            refine lv_iload hx hb dX1_join_120 (lv_at hl 1 rfl) ?_
            refine lv_if_ne (tgt := 141) hx hb dX1_join_122 (by decide) (fun c122 => ?_) (fun c122 => ?_)
            · exact absurd c122 (by decide)
            · clear c122
              refine lv_aload_n hx hb dX1_join_125 rfl (lv_at hl 2 rfl) ?_
              refine va_get (D := (dC, dI)) (ci := 1) (v := .ref a6) (C := RX1) (T := TX1) (N := 8) hx hb hts iwsX1_join hown hK hP 0 rfl rfl 7 (by decide) (hts (.fieldLink RX1 25 "BranchTimesModel" "cutFrom" "[I") (by decide +kernel)) (fun _ h9 => h9) rfl dX1_join_126 ?_
              refine lv_bipush (v := 16) hx hb dX1_join_129 (by decide) ?_
              refine lv_iload_n hx hb dX1_join_131 rfl (lv_at hl 3 rfl) ?_
              refine lv_imul hx hb dX1_join_132 ?_
              refine lv_iload hx hb dX1_join_133 (lv_at hl 7 rfl) ?_
              refine lv_iadd hx hb dX1_join_135 ?_
              refine lv_top (x' := mCp g (nI i)) (rfl) ?_
              refine lv_iconst (v := -1) hx hb dX1_join_136 (by decide) ?_
              refine va_iast (D := (dC, dI)) hx hb hK hP hD hS 6 0 rfl rfl (mCp_in hg (xSrc_nI hlt)) dX1_join_137 (fun H locs hP hD hS => ?_)
              have hP : va_P (dC, dI) vwCl (wM h a1 a2 a3 a4 a5 a6 cA me tm hA rA lT jA pT (upd (mCutsI was cF g bits (mEff tm (mNb tm hA)) i) (mCp g (nI i)).toNatClampNeg ((-1 : Int32)))) H := hP
              have hD : va_D A (wM h a1 a2 a3 a4 a5 a6 cA me tm hA rA lT jA pT (upd (mCutsI was cF g bits (mEff tm (mNb tm hA)) i) (mCp g (nI i)).toNatClampNeg ((-1 : Int32)))) := hD
              refine lv_goto (tgt := 178) hx hb dX1_join_138 (by decide) ?_
              refine lv_iinc (v := nI (i + 1)) (lv' := [(5, .int (nI (i + 1))), (7, .int ((0 : Int32))), (6, .int ((0 : Int32))), (0, .ref h), (1, .int g), (2, .int q), (3, .int bits), (4, .int (bI was))]) hx hb dX1_join_178 hl (k := 7) rfl (nI_1 _) (by decide) rfl (fun ls hl => ?_)
              refine lv_goto (tgt := 68) hx hb dX1_join_181 (by decide) ?_
              exact ih (i + 1) (by omega) _ _ ls (by rw [mCutsI_n (decide_eq_false c82)]; exact hP) (by rw [mCutsI_n (decide_eq_false c82)]; exact hD) hS (lv_sub hl [3, 4, 5, 6, 7, 0] rfl)
          · refine lv_iconst (v := 1) hx hb dX1_join_113 (by decide) ?_
            refine lv_goto (tgt := 118) hx hb dX1_join_114 (by decide) ?_
            refine lv_istore (lv' := [(7, .int ((1 : Int32))), (6, .int ((0 : Int32))), (0, .ref h), (1, .int g), (2, .int q), (3, .int bits), (4, .int (bI was)), (5, .int (nI i))]) hx hb dX1_join_118 hl (by decide) rfl (fun ls hl => ?_)
            refine lv_iload hx hb dX1_join_120 (lv_at hl 1 rfl) ?_
            refine lv_if_ne (tgt := 141) hx hb dX1_join_122 (by decide) (fun c122 => ?_) (fun c122 => ?_)
            · exact absurd c122 (by decide)
            · clear c122
              refine lv_aload_n hx hb dX1_join_125 rfl (lv_at hl 2 rfl) ?_
              refine va_get (D := (dC, dI)) (ci := 1) (v := .ref a6) (C := RX1) (T := TX1) (N := 8) hx hb hts iwsX1_join hown hK hP 0 rfl rfl 7 (by decide) (hts (.fieldLink RX1 25 "BranchTimesModel" "cutFrom" "[I") (by decide +kernel)) (fun _ h9 => h9) rfl dX1_join_126 ?_
              refine lv_bipush (v := 16) hx hb dX1_join_129 (by decide) ?_
              refine lv_iload_n hx hb dX1_join_131 rfl (lv_at hl 3 rfl) ?_
              refine lv_imul hx hb dX1_join_132 ?_
              refine lv_iload hx hb dX1_join_133 (lv_at hl 7 rfl) ?_
              refine lv_iadd hx hb dX1_join_135 ?_
              refine lv_top (x' := mCp g (nI i)) (rfl) ?_
              refine lv_iconst (v := -1) hx hb dX1_join_136 (by decide) ?_
              refine va_iast (D := (dC, dI)) hx hb hK hP hD hS 6 0 rfl rfl (mCp_in hg (xSrc_nI hlt)) dX1_join_137 (fun H locs hP hD hS => ?_)
              have hP : va_P (dC, dI) vwCl (wM h a1 a2 a3 a4 a5 a6 cA me tm hA rA lT jA pT (upd (mCutsI was cF g bits (mEff tm (mNb tm hA)) i) (mCp g (nI i)).toNatClampNeg ((-1 : Int32)))) H := hP
              have hD : va_D A (wM h a1 a2 a3 a4 a5 a6 cA me tm hA rA lT jA pT (upd (mCutsI was cF g bits (mEff tm (mNb tm hA)) i) (mCp g (nI i)).toNatClampNeg ((-1 : Int32)))) := hD
              refine lv_goto (tgt := 178) hx hb dX1_join_138 (by decide) ?_
              refine lv_iinc (v := nI (i + 1)) (lv' := [(5, .int (nI (i + 1))), (7, .int ((1 : Int32))), (6, .int ((0 : Int32))), (0, .ref h), (1, .int g), (2, .int q), (3, .int bits), (4, .int (bI was))]) hx hb dX1_join_178 hl (k := 7) rfl (nI_1 _) (by decide) rfl (fun ls hl => ?_)
              refine lv_goto (tgt := 68) hx hb dX1_join_181 (by decide) ?_
              exact ih (i + 1) (by omega) _ _ ls (by rw [mCutsI_n (decide_eq_false c82)]; exact hP) (by rw [mCutsI_n (decide_eq_false c82)]; exact hD) hS (lv_sub hl [3, 4, 5, 6, 7, 0] rfl)
      · refine lv_iconst (v := 1) hx hb dX1_join_85 (by decide) ?_
        refine lv_goto (tgt := 90) hx hb dX1_join_86 (by decide) ?_
        refine lv_istore (lv' := [(6, .int ((1 : Int32))), (0, .ref h), (1, .int g), (2, .int q), (3, .int bits), (4, .int (bI was)), (5, .int (nI i))]) hx hb dX1_join_90 hl (by decide) rfl (fun ls hl => ?_)
        refine lv_iload hx hb dX1_join_92 (lv_at hl 5 rfl) ?_
        refine lv_if_eq (tgt := 113) hx hb dX1_join_94 (by decide) (fun c94 => ?_) (fun c94 => ?_)
        · have b94 := bI_z c94
          refine lv_iconst (v := 1) hx hb dX1_join_113 (by decide) ?_
          refine lv_goto (tgt := 118) hx hb dX1_join_114 (by decide) ?_
          refine lv_istore (lv' := [(7, .int ((1 : Int32))), (6, .int ((1 : Int32))), (0, .ref h), (1, .int g), (2, .int q), (3, .int bits), (4, .int (bI was)), (5, .int (nI i))]) hx hb dX1_join_118 hl (by decide) rfl (fun ls hl => ?_)
          refine lv_iload hx hb dX1_join_120 (lv_at hl 1 rfl) ?_
          refine lv_if_ne (tgt := 141) hx hb dX1_join_122 (by decide) (fun c122 => ?_) (fun c122 => ?_)
          · clear c122
            refine lv_iload hx hb dX1_join_141 (lv_at hl 0 rfl) ?_
            refine lv_if_eq (tgt := 178) hx hb dX1_join_143 (by decide) (fun c143 => ?_) (fun c143 => ?_)
            · exact absurd c143 (by decide)
            · clear c143
              refine lv_aload_n hx hb dX1_join_146 rfl (lv_at hl 2 rfl) ?_
              refine va_get (D := (dC, dI)) (ci := 1) (v := .ref a6) (C := RX1) (T := TX1) (N := 8) hx hb hts iwsX1_join hown hK hP 0 rfl rfl 7 (by decide) (hts (.fieldLink RX1 25 "BranchTimesModel" "cutFrom" "[I") (by decide +kernel)) (fun _ h9 => h9) rfl dX1_join_147 ?_
              refine lv_bipush (v := 16) hx hb dX1_join_150 (by decide) ?_
              refine lv_iload_n hx hb dX1_join_152 rfl (lv_at hl 3 rfl) ?_
              refine lv_imul hx hb dX1_join_153 ?_
              refine lv_iload hx hb dX1_join_154 (lv_at hl 7 rfl) ?_
              refine lv_iadd hx hb dX1_join_156 ?_
              refine lv_top (x' := mCp g (nI i)) (rfl) ?_
              refine lv_aload_n hx hb dX1_join_157 rfl (lv_at hl 2 rfl) ?_
              refine rd_V (As := []) (rest := [.int (mCp g (nI i)), .ref a6]) (ci := 1) (qc := (RX1, TX1, 8)) S (c_X1_isCrowded l dC dI h a1 a2 a3 a4 a5 a6 cA me tm hA rA lT jA pT (mCutsI was cF g bits (mEff tm (mNb tm hA)) i)) gX1_join_X1_isCrowded rfl ⟨rfl, rfl⟩ hd_X1_isCrowded ⟨Nat.le_of_ble_eq_true rfl, Nat.le_of_ble_eq_true rfl⟩ hK hP rfl rfl rfl hl.1 rfl (Nat.le_of_ble_eq_true rfl) dX1_join_158 hcs ?_
              refine lv_if_eq (tgt := 173) hx hb dX1_join_161 (by decide) (fun c161 => ?_) (fun c161 => ?_)
              · have b161 := bI_z c161
                refine lv_aload_n hx hb dX1_join_173 rfl (lv_at hl 2 rfl) ?_
                refine va_get (D := (dC, dI)) (ci := 1) (v := .int tm) (C := RX1) (T := TX1) (N := 8) hx hb hts iwsX1_join hown hK hP 0 rfl rfl 1 (by decide) (hts (.fieldLink RX1 39 "BranchTimesModel" "time" "I") (by decide +kernel)) (fun _ h9 => h9) rfl dX1_join_174 ?_
                refine lv_top (x' := mEff tm (mNb tm hA)) (by simp [mEff, b161]) ?_
                refine va_iast (D := (dC, dI)) hx hb hK hP hD hS 6 0 rfl rfl (mCp_in hg (xSrc_nI hlt)) dX1_join_177 (fun H locs hP hD hS => ?_)
                have hP : va_P (dC, dI) vwCl (wM h a1 a2 a3 a4 a5 a6 cA me tm hA rA lT jA pT (upd (mCutsI was cF g bits (mEff tm (mNb tm hA)) i) (mCp g (nI i)).toNatClampNeg (mEff tm (mNb tm hA)))) H := hP
                have hD : va_D A (wM h a1 a2 a3 a4 a5 a6 cA me tm hA rA lT jA pT (upd (mCutsI was cF g bits (mEff tm (mNb tm hA)) i) (mCp g (nI i)).toNatClampNeg (mEff tm (mNb tm hA)))) := hD
                refine lv_iinc (v := nI (i + 1)) (lv' := [(5, .int (nI (i + 1))), (7, .int ((1 : Int32))), (6, .int ((1 : Int32))), (0, .ref h), (1, .int g), (2, .int q), (3, .int bits), (4, .int (bI was))]) hx hb dX1_join_178 hl (k := 7) rfl (nI_1 _) (by decide) rfl (fun ls hl => ?_)
                refine lv_goto (tgt := 68) hx hb dX1_join_181 (by decide) ?_
                exact ih (i + 1) (by omega) _ _ ls (by rw [mCutsI_s (decide_eq_true c82) (Or.inl b94)]; exact hP) (by rw [mCutsI_s (decide_eq_true c82) (Or.inl b94)]; exact hD) hS (lv_sub hl [3, 4, 5, 6, 7, 0] rfl)
              · have b161 := bI_nz c161
                refine lv_aload_n hx hb dX1_join_164 rfl (lv_at hl 2 rfl) ?_
                refine va_get (D := (dC, dI)) (ci := 1) (v := .int tm) (C := RX1) (T := TX1) (N := 8) hx hb hts iwsX1_join hown hK hP 0 rfl rfl 1 (by decide) (hts (.fieldLink RX1 39 "BranchTimesModel" "time" "I") (by decide +kernel)) (fun _ h9 => h9) rfl dX1_join_165 ?_
                refine lv_iconst (v := 3) hx hb dX1_join_168 (by decide) ?_
                refine lv_iadd hx hb dX1_join_169 ?_
                refine lv_goto (tgt := 177) hx hb dX1_join_170 (by decide) ?_
                refine lv_top (x' := mEff tm (mNb tm hA)) (by simp [mEff, b161]) ?_
                refine va_iast (D := (dC, dI)) hx hb hK hP hD hS 6 0 rfl rfl (mCp_in hg (xSrc_nI hlt)) dX1_join_177 (fun H locs hP hD hS => ?_)
                have hP : va_P (dC, dI) vwCl (wM h a1 a2 a3 a4 a5 a6 cA me tm hA rA lT jA pT (upd (mCutsI was cF g bits (mEff tm (mNb tm hA)) i) (mCp g (nI i)).toNatClampNeg (mEff tm (mNb tm hA)))) H := hP
                have hD : va_D A (wM h a1 a2 a3 a4 a5 a6 cA me tm hA rA lT jA pT (upd (mCutsI was cF g bits (mEff tm (mNb tm hA)) i) (mCp g (nI i)).toNatClampNeg (mEff tm (mNb tm hA)))) := hD
                refine lv_iinc (v := nI (i + 1)) (lv' := [(5, .int (nI (i + 1))), (7, .int ((1 : Int32))), (6, .int ((1 : Int32))), (0, .ref h), (1, .int g), (2, .int q), (3, .int bits), (4, .int (bI was))]) hx hb dX1_join_178 hl (k := 7) rfl (nI_1 _) (by decide) rfl (fun ls hl => ?_)
                refine lv_goto (tgt := 68) hx hb dX1_join_181 (by decide) ?_
                exact ih (i + 1) (by omega) _ _ ls (by rw [mCutsI_s (decide_eq_true c82) (Or.inl b94)]; exact hP) (by rw [mCutsI_s (decide_eq_true c82) (Or.inl b94)]; exact hD) hS (lv_sub hl [3, 4, 5, 6, 7, 0] rfl)
          · exact absurd c122 (by decide)
        · have b94 := bI_nz c94
          refine lv_aload_n hx hb dX1_join_97 rfl (lv_at hl 1 rfl) ?_
          refine va_get (D := (dC, dI)) (ci := 1) (v := .ref a6) (C := RX1) (T := TX1) (N := 8) hx hb hts iwsX1_join hown hK hP 0 rfl rfl 7 (by decide) (hts (.fieldLink RX1 25 "BranchTimesModel" "cutFrom" "[I") (by decide +kernel)) (fun _ h9 => h9) rfl dX1_join_98 ?_
          refine lv_bipush (v := 16) hx hb dX1_join_101 (by decide) ?_
          refine lv_iload_n hx hb dX1_join_103 rfl (lv_at hl 2 rfl) ?_
          refine lv_imul hx hb dX1_join_104 ?_
          refine lv_iload hx hb dX1_join_105 (lv_at hl 6 rfl) ?_
          refine lv_iadd hx hb dX1_join_107 ?_
          refine lv_top (x' := mCp g (nI i)) (rfl) ?_
          refine va_iald (D := (dC, dI)) hx hb hK hP 6 0 rfl rfl (mCp_in hg (xSrc_nI hlt)) dX1_join_108 ?_
          refine lv_iconst (v := -1) hx hb dX1_join_109 (by decide) ?_
          refine lv_icmp_ne (tgt := 117) hx hb dX1_join_110 (by decide) (fun c110 => ?_) (fun c110 => ?_)
          · refine lv_iconst (v := 0) hx hb dX1_join_117 (by decide) ?_
            refine lv_istore (lv' := [(7, .int ((0 : Int32))), (6, .int ((1 : Int32))), (0, .ref h), (1, .int g), (2, .int q), (3, .int bits), (4, .int (bI was)), (5, .int (nI i))]) hx hb dX1_join_118 hl (by decide) rfl (fun ls hl => ?_)
            refine lv_iload hx hb dX1_join_120 (lv_at hl 1 rfl) ?_
            refine lv_if_ne (tgt := 141) hx hb dX1_join_122 (by decide) (fun c122 => ?_) (fun c122 => ?_)
            · clear c122
              refine lv_iload hx hb dX1_join_141 (lv_at hl 0 rfl) ?_
              refine lv_if_eq (tgt := 178) hx hb dX1_join_143 (by decide) (fun c143 => ?_) (fun c143 => ?_)
              · clear c143
                refine lv_iinc (v := nI (i + 1)) (lv' := [(5, .int (nI (i + 1))), (7, .int ((0 : Int32))), (6, .int ((1 : Int32))), (0, .ref h), (1, .int g), (2, .int q), (3, .int bits), (4, .int (bI was))]) hx hb dX1_join_178 hl (k := 7) rfl (nI_1 _) (by decide) rfl (fun ls hl => ?_)
                refine lv_goto (tgt := 68) hx hb dX1_join_181 (by decide) ?_
                exact ih (i + 1) (by omega) _ _ ls (by rw [mCutsI_k (decide_eq_true c82) b94 c110]; exact hP) (by rw [mCutsI_k (decide_eq_true c82) b94 c110]; exact hD) hS (lv_sub hl [3, 4, 5, 6, 7, 0] rfl)
              · exact absurd c143 (by decide)
            · exact absurd c122 (by decide)
          · refine lv_iconst (v := 1) hx hb dX1_join_113 (by decide) ?_
            refine lv_goto (tgt := 118) hx hb dX1_join_114 (by decide) ?_
            refine lv_istore (lv' := [(7, .int ((1 : Int32))), (6, .int ((1 : Int32))), (0, .ref h), (1, .int g), (2, .int q), (3, .int bits), (4, .int (bI was)), (5, .int (nI i))]) hx hb dX1_join_118 hl (by decide) rfl (fun ls hl => ?_)
            refine lv_iload hx hb dX1_join_120 (lv_at hl 1 rfl) ?_
            refine lv_if_ne (tgt := 141) hx hb dX1_join_122 (by decide) (fun c122 => ?_) (fun c122 => ?_)
            · clear c122
              refine lv_iload hx hb dX1_join_141 (lv_at hl 0 rfl) ?_
              refine lv_if_eq (tgt := 178) hx hb dX1_join_143 (by decide) (fun c143 => ?_) (fun c143 => ?_)
              · exact absurd c143 (by decide)
              · clear c143
                refine lv_aload_n hx hb dX1_join_146 rfl (lv_at hl 2 rfl) ?_
                refine va_get (D := (dC, dI)) (ci := 1) (v := .ref a6) (C := RX1) (T := TX1) (N := 8) hx hb hts iwsX1_join hown hK hP 0 rfl rfl 7 (by decide) (hts (.fieldLink RX1 25 "BranchTimesModel" "cutFrom" "[I") (by decide +kernel)) (fun _ h9 => h9) rfl dX1_join_147 ?_
                refine lv_bipush (v := 16) hx hb dX1_join_150 (by decide) ?_
                refine lv_iload_n hx hb dX1_join_152 rfl (lv_at hl 3 rfl) ?_
                refine lv_imul hx hb dX1_join_153 ?_
                refine lv_iload hx hb dX1_join_154 (lv_at hl 7 rfl) ?_
                refine lv_iadd hx hb dX1_join_156 ?_
                refine lv_top (x' := mCp g (nI i)) (rfl) ?_
                refine lv_aload_n hx hb dX1_join_157 rfl (lv_at hl 2 rfl) ?_
                refine rd_V (As := []) (rest := [.int (mCp g (nI i)), .ref a6]) (ci := 1) (qc := (RX1, TX1, 8)) S (c_X1_isCrowded l dC dI h a1 a2 a3 a4 a5 a6 cA me tm hA rA lT jA pT (mCutsI was cF g bits (mEff tm (mNb tm hA)) i)) gX1_join_X1_isCrowded rfl ⟨rfl, rfl⟩ hd_X1_isCrowded ⟨Nat.le_of_ble_eq_true rfl, Nat.le_of_ble_eq_true rfl⟩ hK hP rfl rfl rfl hl.1 rfl (Nat.le_of_ble_eq_true rfl) dX1_join_158 hcs ?_
                refine lv_if_eq (tgt := 173) hx hb dX1_join_161 (by decide) (fun c161 => ?_) (fun c161 => ?_)
                · have b161 := bI_z c161
                  refine lv_aload_n hx hb dX1_join_173 rfl (lv_at hl 2 rfl) ?_
                  refine va_get (D := (dC, dI)) (ci := 1) (v := .int tm) (C := RX1) (T := TX1) (N := 8) hx hb hts iwsX1_join hown hK hP 0 rfl rfl 1 (by decide) (hts (.fieldLink RX1 39 "BranchTimesModel" "time" "I") (by decide +kernel)) (fun _ h9 => h9) rfl dX1_join_174 ?_
                  refine lv_top (x' := mEff tm (mNb tm hA)) (by simp [mEff, b161]) ?_
                  refine va_iast (D := (dC, dI)) hx hb hK hP hD hS 6 0 rfl rfl (mCp_in hg (xSrc_nI hlt)) dX1_join_177 (fun H locs hP hD hS => ?_)
                  have hP : va_P (dC, dI) vwCl (wM h a1 a2 a3 a4 a5 a6 cA me tm hA rA lT jA pT (upd (mCutsI was cF g bits (mEff tm (mNb tm hA)) i) (mCp g (nI i)).toNatClampNeg (mEff tm (mNb tm hA)))) H := hP
                  have hD : va_D A (wM h a1 a2 a3 a4 a5 a6 cA me tm hA rA lT jA pT (upd (mCutsI was cF g bits (mEff tm (mNb tm hA)) i) (mCp g (nI i)).toNatClampNeg (mEff tm (mNb tm hA)))) := hD
                  refine lv_iinc (v := nI (i + 1)) (lv' := [(5, .int (nI (i + 1))), (7, .int ((1 : Int32))), (6, .int ((1 : Int32))), (0, .ref h), (1, .int g), (2, .int q), (3, .int bits), (4, .int (bI was))]) hx hb dX1_join_178 hl (k := 7) rfl (nI_1 _) (by decide) rfl (fun ls hl => ?_)
                  refine lv_goto (tgt := 68) hx hb dX1_join_181 (by decide) ?_
                  exact ih (i + 1) (by omega) _ _ ls (by rw [mCutsI_s (decide_eq_true c82) (Or.inr c110)]; exact hP) (by rw [mCutsI_s (decide_eq_true c82) (Or.inr c110)]; exact hD) hS (lv_sub hl [3, 4, 5, 6, 7, 0] rfl)
                · have b161 := bI_nz c161
                  refine lv_aload_n hx hb dX1_join_164 rfl (lv_at hl 2 rfl) ?_
                  refine va_get (D := (dC, dI)) (ci := 1) (v := .int tm) (C := RX1) (T := TX1) (N := 8) hx hb hts iwsX1_join hown hK hP 0 rfl rfl 1 (by decide) (hts (.fieldLink RX1 39 "BranchTimesModel" "time" "I") (by decide +kernel)) (fun _ h9 => h9) rfl dX1_join_165 ?_
                  refine lv_iconst (v := 3) hx hb dX1_join_168 (by decide) ?_
                  refine lv_iadd hx hb dX1_join_169 ?_
                  refine lv_goto (tgt := 177) hx hb dX1_join_170 (by decide) ?_
                  refine lv_top (x' := mEff tm (mNb tm hA)) (by simp [mEff, b161]) ?_
                  refine va_iast (D := (dC, dI)) hx hb hK hP hD hS 6 0 rfl rfl (mCp_in hg (xSrc_nI hlt)) dX1_join_177 (fun H locs hP hD hS => ?_)
                  have hP : va_P (dC, dI) vwCl (wM h a1 a2 a3 a4 a5 a6 cA me tm hA rA lT jA pT (upd (mCutsI was cF g bits (mEff tm (mNb tm hA)) i) (mCp g (nI i)).toNatClampNeg (mEff tm (mNb tm hA)))) H := hP
                  have hD : va_D A (wM h a1 a2 a3 a4 a5 a6 cA me tm hA rA lT jA pT (upd (mCutsI was cF g bits (mEff tm (mNb tm hA)) i) (mCp g (nI i)).toNatClampNeg (mEff tm (mNb tm hA)))) := hD
                  refine lv_iinc (v := nI (i + 1)) (lv' := [(5, .int (nI (i + 1))), (7, .int ((1 : Int32))), (6, .int ((1 : Int32))), (0, .ref h), (1, .int g), (2, .int q), (3, .int bits), (4, .int (bI was))]) hx hb dX1_join_178 hl (k := 7) rfl (nI_1 _) (by decide) rfl (fun ls hl => ?_)
                  refine lv_goto (tgt := 68) hx hb dX1_join_181 (by decide) ?_
                  exact ih (i + 1) (by omega) _ _ ls (by rw [mCutsI_s (decide_eq_true c82) (Or.inr c110)]; exact hP) (by rw [mCutsI_s (decide_eq_true c82) (Or.inr c110)]; exact hD) hS (lv_sub hl [3, 4, 5, 6, 7, 0] rfl)
            · exact absurd c122 (by decide)
set_option maxHeartbeats 4000000 in
set_option maxRecDepth 100000 in
theorem c_X1_join (l : Launch) (dC : Nat → ClassId) (dI : Nat → Nat → Nat) (h a1 a2 a3 a4 a5 a6 : Nat) (cA : ClassId) (me tm : Int32) (hA rA lT jA pT cF : Nat → Int32) (g q bits : Int32) (sz : Nat) : Met l yX1_join wsX1_join ({ frames := 2, cells := 0, slots := 0, locals := 44 }) (PW [.ref h, .int g, .int q, .int bits] dC dI cA (wM h a1 a2 a3 a4 a5 a6 cA me tm hA rA lT jA pT cF) sz) (QWi dC dI (bI (mBr g q)) (wM h a1 a2 a3 a4 a5 a6 cA me tm hA rA lT jA pT cF) (wM h a1 a2 a3 a4 a5 a6 cA me tm hA rA lT (mJoA tm jA g q) (mJoP pT g q) (mJoC tm hA jA pT cF g q bits)) sz) 0 0 (va_A (wM h a1 a2 a3 a4 a5 a6 cA me tm hA rA lT jA pT cF) sz) := by
  refine Met.ofW (cc := cX1_join) (maxL := 8) (ret := some .boolean) (by decide) rfl ?_
  intro p e s m args below meth c s₁ B hml hv
  obtain ⟨rfl, hsz, hP, hK, hD0⟩ := hv
  have hx := B.exec
  have hb := B.bytes
  have hr := B.returns
  have hts := atoms_spec (ws := wsX1_join) B.pre
  have hown : s.vm.findClass RX1 = some m.cls := findClass_of_methodNamed B.named
  have hlocks := B.notSynchronized
  have S : CallFix p m c cX1_join 8 s ([.ref h, .int g, .int q, .int bits] : List Value).toArray wsX1_join RX1 := ⟨hx, hb, hml, hown, hts⟩
  subst hsz
  have hD := hD0.self (sz := s.heap.size)
  generalize hAe : va_A (wM h a1 a2 a3 a4 a5 a6 cA me tm hA rA lT jA pT cF) s.heap.size = A at hD ⊢
  have hAA : ∀ q : Nat, s.heap.size ≤ q → A q := fun q h => by rw [← hAe]; exact Or.inr h
  have hS : va_S A s.heap s.heap [] := va_S.rf
  have hQ9 := hAe
  have hl := lv_entry ([.ref h, .int g, .int q, .int bits]) (n := 8) (Nat.le_of_ble_eq_true rfl)
  rw [lg_entry_eq]
  generalize (lg_sl ([.ref h, .int g, .int q, .int bits]) ++ List.replicate (8 - (lg_sl ([.ref h, .int g, .int q, .int bits])).length) Slot.unset).toArray = ls at hl ⊢
  have hl : lv_has ls 8 [(0, .ref h), (1, .int g), (2, .int q), (3, .int bits)] := hl
  refine lv_iload_n hx hb dX1_join_0 rfl (lv_at hl 1 rfl) ?_
  refine lv_iload_n hx hb dX1_join_1 rfl (lv_at hl 2 rfl) ?_
  refine rd_S (As := [.int g, .int q]) (rest := []) S (c_X1_isBranch l g q) gX1_join_X1_isBranch rfl ⟨rfl, rfl⟩ hd_X1_isBranch ⟨Nat.le_of_ble_eq_true rfl, Nat.le_of_ble_eq_true rfl⟩ rfl hl.1 rfl (Nat.le_of_ble_eq_true rfl) dX1_join_2 ⟨Nat.le_of_ble_eq_true rfl, Nat.le_of_ble_eq_true rfl⟩ ?_
  refine lv_if_ne (tgt := 10) hx hb dX1_join_5 (by decide) (fun c5 => ?_) (fun c5 => ?_)
  · have b5 := bI_nz c5
    refine lv_aload_n hx hb dX1_join_10 rfl (lv_at hl 0 rfl) ?_
    refine lv_iload_n hx hb dX1_join_11 rfl (lv_at hl 1 rfl) ?_
    refine lv_iload_n hx hb dX1_join_12 rfl (lv_at hl 2 rfl) ?_
    refine rd_V (As := [.int g, .int q]) (rest := []) (ci := 1) (qc := (RX1, TX1, 8)) S (c_X1_till l dC dI h a1 a2 a3 a4 a5 a6 cA me tm hA rA lT jA pT cF g q b5) gX1_join_X1_till rfl ⟨rfl, rfl⟩ hd_X1_till ⟨Nat.le_of_ble_eq_true rfl, Nat.le_of_ble_eq_true rfl⟩ hK hP rfl rfl rfl hl.1 rfl (Nat.le_of_ble_eq_true rfl) dX1_join_13 ⟨Nat.le_of_ble_eq_true rfl, Nat.le_of_ble_eq_true rfl⟩ ?_
    refine lv_if_le (tgt := 23) hx hb dX1_join_16 (by decide) (fun c16 => ?_) (fun c16 => ?_)
    · refine lv_iconst (v := 0) hx hb dX1_join_23 (by decide) ?_
      refine lv_top (x' := bI (mWas tm jA pT g q)) (by simp [mWas, bI, c16]) ?_
      refine lv_istore (lv' := [(4, .int (bI (mWas tm jA pT g q))), (0, .ref h), (1, .int g), (2, .int q), (3, .int bits)]) hx hb dX1_join_24 hl (by decide) rfl (fun ls hl => ?_)
      refine lv_aload_n hx hb dX1_join_26 rfl (lv_at hl 1 rfl) ?_
      refine va_get (D := (dC, dI)) (ci := 1) (v := .ref a4) (C := RX1) (T := TX1) (N := 8) hx hb hts iwsX1_join hown hK hP 0 rfl rfl 5 (by decide) (hts (.fieldLink RX1 19 "BranchTimesModel" "joinAt" "[I") (by decide +kernel)) (fun _ h9 => h9) rfl dX1_join_27 ?_
      refine lv_bipush (v := 17) hx hb dX1_join_30 (by decide) ?_
      refine lv_iload_n hx hb dX1_join_32 rfl (lv_at hl 2 rfl) ?_
      refine lv_imul hx hb dX1_join_33 ?_
      refine lv_iload_n hx hb dX1_join_34 rfl (lv_at hl 3 rfl) ?_
      refine lv_iadd hx hb dX1_join_35 ?_
      refine lv_iconst (v := 1) hx hb dX1_join_36 (by decide) ?_
      refine lv_iadd hx hb dX1_join_37 ?_
      refine lv_top (x' := mPl g q) (rfl) ?_
      refine lv_aload_n hx hb dX1_join_38 rfl (lv_at hl 1 rfl) ?_
      refine va_get (D := (dC, dI)) (ci := 1) (v := .int tm) (C := RX1) (T := TX1) (N := 8) hx hb hts iwsX1_join hown hK hP 0 rfl rfl 1 (by decide) (hts (.fieldLink RX1 39 "BranchTimesModel" "time" "I") (by decide +kernel)) (fun _ h9 => h9) rfl dX1_join_39 ?_
      refine va_iast (D := (dC, dI)) hx hb hK hP hD hS 4 0 rfl rfl (mPl_in b5) dX1_join_42 (fun H locs hP hD hS => ?_)
      have hP : va_P (dC, dI) vwCl (wM h a1 a2 a3 a4 a5 a6 cA me tm hA rA lT (upd jA (mPl g q).toNatClampNeg tm) pT cF) H := hP
      have hD : va_D A (wM h a1 a2 a3 a4 a5 a6 cA me tm hA rA lT (upd jA (mPl g q).toNatClampNeg tm) pT cF) := hD
      refine lv_aload_n hx hb dX1_join_43 rfl (lv_at hl 1 rfl) ?_
      refine va_get (D := (dC, dI)) (ci := 1) (v := .ref a5) (C := RX1) (T := TX1) (N := 8) hx hb hts iwsX1_join hown hK hP 0 rfl rfl 6 (by decide) (hts (.fieldLink RX1 22 "BranchTimesModel" "prunedTill" "[I") (by decide +kernel)) (fun _ h9 => h9) rfl dX1_join_44 ?_
      refine lv_bipush (v := 17) hx hb dX1_join_47 (by decide) ?_
      refine lv_iload_n hx hb dX1_join_49 rfl (lv_at hl 2 rfl) ?_
      refine lv_imul hx hb dX1_join_50 ?_
      refine lv_iload_n hx hb dX1_join_51 rfl (lv_at hl 3 rfl) ?_
      refine lv_iadd hx hb dX1_join_52 ?_
      refine lv_iconst (v := 1) hx hb dX1_join_53 (by decide) ?_
      refine lv_iadd hx hb dX1_join_54 ?_
      refine lv_top (x' := mPl g q) (rfl) ?_
      refine lv_ldc (v := 1000000) hx hb hown (hts (.constant RX1 47 (1000000)) (by decide +kernel)) dX1_join_55 ?_
      refine va_iast (D := (dC, dI)) hx hb hK hP hD hS 5 0 rfl rfl (mPl_in b5) dX1_join_57 (fun H locs hP hD hS => ?_)
      have hP : va_P (dC, dI) vwCl (wM h a1 a2 a3 a4 a5 a6 cA me tm hA rA lT (upd jA (mPl g q).toNatClampNeg tm) (upd pT (mPl g q).toNatClampNeg ((1000000 : Int32))) cF) H := hP
      have hD : va_D A (wM h a1 a2 a3 a4 a5 a6 cA me tm hA rA lT (upd jA (mPl g q).toNatClampNeg tm) (upd pT (mPl g q).toNatClampNeg ((1000000 : Int32))) cF) := hD
      refine lv_iload_n hx hb dX1_join_58 rfl (lv_at hl 3 rfl) ?_
      refine lv_iconst (v := -1) hx hb dX1_join_59 (by decide) ?_
      refine lv_icmp_eq (tgt := 65) hx hb dX1_join_60 (by decide) (fun c60 => ?_) (fun c60 => ?_)
      · refine lv_iconst (v := 0) hx hb dX1_join_65 (by decide) ?_
        refine lv_istore (lv' := [(5, .int ((0 : Int32))), (4, .int (bI (mWas tm jA pT g q))), (0, .ref h), (1, .int g), (2, .int q), (3, .int bits)]) hx hb dX1_join_66 hl (by decide) rfl (fun ls hl => ?_)
        refine lp_X1_join_68 l dC dI h a1 a2 a3 a4 a5 a6 cA me tm hA rA lT (upd jA (mPl g q).toNatClampNeg tm) (upd pT (mPl g q).toNatClampNeg ((1000000 : Int32))) cF g q bits (mWas tm jA pT g q) (mBr_G b5) S hK hAA ⟨Nat.le_of_ble_eq_true rfl, Nat.le_of_ble_eq_true rfl⟩ (fun H locs ls hP hD hS hl => ?_) 16 0 rfl _ _ ls hP hD hS (lv_sub hl [2, 3, 4, 5, 1, 0] rfl)
        refine lv_iconst (v := 1) hx hb dX1_join_184 (by decide) ?_
        have e5 : mJoA tm jA g q = upd jA (mPl g q).toNatClampNeg tm := if_pos b5
        have e6 : mJoP pT g q = upd pT (mPl g q).toNatClampNeg ((1000000 : Int32)) := if_pos b5
        have e7 : mJoC tm hA jA pT cF g q bits = mCutsI (mWas tm jA pT g q) cF g bits (mEff tm (mNb tm hA)) 16 := if_pos (by unfold mJoS; rw [b5, c60]; rfl)
        have hP9 : va_P (dC, dI) vwCl (wM h a1 a2 a3 a4 a5 a6 cA me tm hA rA lT (mJoA tm jA g q) (mJoP pT g q) (mJoC tm hA jA pT cF g q bits)) H := by rw [e5, e6, e7]; exact hP
        have er : (1 : Int32) = bI (mBr g q) := bI_1 b5
        exact W.zret (v := (1 : Int32)) (ty := .boolean) hx hb hr rfl (fun t ht hW => ⟨⟨_, (), rfl, er, by dsimp only; rw [ht]; exact hP9⟩, by rw [hQ9]; exact hS.F ht⟩) hS.2.2 dX1_join_185
      · refine lv_iconst (v := 1) hx hb dX1_join_63 (by decide) ?_
        have e5 : mJoA tm jA g q = upd jA (mPl g q).toNatClampNeg tm := by simp [mJoA, mJoP, mJoC, mJoS, bI, b5, c16, c60]
        have e6 : mJoP pT g q = upd pT (mPl g q).toNatClampNeg ((1000000 : Int32)) := by simp [mJoA, mJoP, mJoC, mJoS, bI, b5, c16, c60]
        have e7 : mJoC tm hA jA pT cF g q bits = cF := by simp [mJoA, mJoP, mJoC, mJoS, bI, b5, c16, c60]
        have hP9 : va_P (dC, dI) vwCl (wM h a1 a2 a3 a4 a5 a6 cA me tm hA rA lT (mJoA tm jA g q) (mJoP pT g q) (mJoC tm hA jA pT cF g q bits)) H := by rw [e5, e6, e7]; exact hP
        have er : (1 : Int32) = bI (mBr g q) := by simp [mJoA, mJoP, mJoC, mJoS, bI, b5, c16, c60]
        exact W.zret (v := (1 : Int32)) (ty := .boolean) hx hb hr rfl (fun t ht hW => ⟨⟨_, (), rfl, er, by dsimp only; rw [ht]; exact hP9⟩, by rw [hQ9]; exact hS.F ht⟩) hS.2.2 dX1_join_64
    · refine lv_iconst (v := 1) hx hb dX1_join_19 (by decide) ?_
      refine lv_goto (tgt := 24) hx hb dX1_join_20 (by decide) ?_
      refine lv_top (x' := bI (mWas tm jA pT g q)) (by simp [mWas, bI, c16]) ?_
      refine lv_istore (lv' := [(4, .int (bI (mWas tm jA pT g q))), (0, .ref h), (1, .int g), (2, .int q), (3, .int bits)]) hx hb dX1_join_24 hl (by decide) rfl (fun ls hl => ?_)
      refine lv_aload_n hx hb dX1_join_26 rfl (lv_at hl 1 rfl) ?_
      refine va_get (D := (dC, dI)) (ci := 1) (v := .ref a4) (C := RX1) (T := TX1) (N := 8) hx hb hts iwsX1_join hown hK hP 0 rfl rfl 5 (by decide) (hts (.fieldLink RX1 19 "BranchTimesModel" "joinAt" "[I") (by decide +kernel)) (fun _ h9 => h9) rfl dX1_join_27 ?_
      refine lv_bipush (v := 17) hx hb dX1_join_30 (by decide) ?_
      refine lv_iload_n hx hb dX1_join_32 rfl (lv_at hl 2 rfl) ?_
      refine lv_imul hx hb dX1_join_33 ?_
      refine lv_iload_n hx hb dX1_join_34 rfl (lv_at hl 3 rfl) ?_
      refine lv_iadd hx hb dX1_join_35 ?_
      refine lv_iconst (v := 1) hx hb dX1_join_36 (by decide) ?_
      refine lv_iadd hx hb dX1_join_37 ?_
      refine lv_top (x' := mPl g q) (rfl) ?_
      refine lv_aload_n hx hb dX1_join_38 rfl (lv_at hl 1 rfl) ?_
      refine va_get (D := (dC, dI)) (ci := 1) (v := .int tm) (C := RX1) (T := TX1) (N := 8) hx hb hts iwsX1_join hown hK hP 0 rfl rfl 1 (by decide) (hts (.fieldLink RX1 39 "BranchTimesModel" "time" "I") (by decide +kernel)) (fun _ h9 => h9) rfl dX1_join_39 ?_
      refine va_iast (D := (dC, dI)) hx hb hK hP hD hS 4 0 rfl rfl (mPl_in b5) dX1_join_42 (fun H locs hP hD hS => ?_)
      have hP : va_P (dC, dI) vwCl (wM h a1 a2 a3 a4 a5 a6 cA me tm hA rA lT (upd jA (mPl g q).toNatClampNeg tm) pT cF) H := hP
      have hD : va_D A (wM h a1 a2 a3 a4 a5 a6 cA me tm hA rA lT (upd jA (mPl g q).toNatClampNeg tm) pT cF) := hD
      refine lv_aload_n hx hb dX1_join_43 rfl (lv_at hl 1 rfl) ?_
      refine va_get (D := (dC, dI)) (ci := 1) (v := .ref a5) (C := RX1) (T := TX1) (N := 8) hx hb hts iwsX1_join hown hK hP 0 rfl rfl 6 (by decide) (hts (.fieldLink RX1 22 "BranchTimesModel" "prunedTill" "[I") (by decide +kernel)) (fun _ h9 => h9) rfl dX1_join_44 ?_
      refine lv_bipush (v := 17) hx hb dX1_join_47 (by decide) ?_
      refine lv_iload_n hx hb dX1_join_49 rfl (lv_at hl 2 rfl) ?_
      refine lv_imul hx hb dX1_join_50 ?_
      refine lv_iload_n hx hb dX1_join_51 rfl (lv_at hl 3 rfl) ?_
      refine lv_iadd hx hb dX1_join_52 ?_
      refine lv_iconst (v := 1) hx hb dX1_join_53 (by decide) ?_
      refine lv_iadd hx hb dX1_join_54 ?_
      refine lv_top (x' := mPl g q) (rfl) ?_
      refine lv_ldc (v := 1000000) hx hb hown (hts (.constant RX1 47 (1000000)) (by decide +kernel)) dX1_join_55 ?_
      refine va_iast (D := (dC, dI)) hx hb hK hP hD hS 5 0 rfl rfl (mPl_in b5) dX1_join_57 (fun H locs hP hD hS => ?_)
      have hP : va_P (dC, dI) vwCl (wM h a1 a2 a3 a4 a5 a6 cA me tm hA rA lT (upd jA (mPl g q).toNatClampNeg tm) (upd pT (mPl g q).toNatClampNeg ((1000000 : Int32))) cF) H := hP
      have hD : va_D A (wM h a1 a2 a3 a4 a5 a6 cA me tm hA rA lT (upd jA (mPl g q).toNatClampNeg tm) (upd pT (mPl g q).toNatClampNeg ((1000000 : Int32))) cF) := hD
      refine lv_iload_n hx hb dX1_join_58 rfl (lv_at hl 3 rfl) ?_
      refine lv_iconst (v := -1) hx hb dX1_join_59 (by decide) ?_
      refine lv_icmp_eq (tgt := 65) hx hb dX1_join_60 (by decide) (fun c60 => ?_) (fun c60 => ?_)
      · refine lv_iconst (v := 0) hx hb dX1_join_65 (by decide) ?_
        refine lv_istore (lv' := [(5, .int ((0 : Int32))), (4, .int (bI (mWas tm jA pT g q))), (0, .ref h), (1, .int g), (2, .int q), (3, .int bits)]) hx hb dX1_join_66 hl (by decide) rfl (fun ls hl => ?_)
        refine lp_X1_join_68 l dC dI h a1 a2 a3 a4 a5 a6 cA me tm hA rA lT (upd jA (mPl g q).toNatClampNeg tm) (upd pT (mPl g q).toNatClampNeg ((1000000 : Int32))) cF g q bits (mWas tm jA pT g q) (mBr_G b5) S hK hAA ⟨Nat.le_of_ble_eq_true rfl, Nat.le_of_ble_eq_true rfl⟩ (fun H locs ls hP hD hS hl => ?_) 16 0 rfl _ _ ls hP hD hS (lv_sub hl [2, 3, 4, 5, 1, 0] rfl)
        refine lv_iconst (v := 1) hx hb dX1_join_184 (by decide) ?_
        have e5 : mJoA tm jA g q = upd jA (mPl g q).toNatClampNeg tm := if_pos b5
        have e6 : mJoP pT g q = upd pT (mPl g q).toNatClampNeg ((1000000 : Int32)) := if_pos b5
        have e7 : mJoC tm hA jA pT cF g q bits = mCutsI (mWas tm jA pT g q) cF g bits (mEff tm (mNb tm hA)) 16 := if_pos (by unfold mJoS; rw [b5, c60]; rfl)
        have hP9 : va_P (dC, dI) vwCl (wM h a1 a2 a3 a4 a5 a6 cA me tm hA rA lT (mJoA tm jA g q) (mJoP pT g q) (mJoC tm hA jA pT cF g q bits)) H := by rw [e5, e6, e7]; exact hP
        have er : (1 : Int32) = bI (mBr g q) := bI_1 b5
        exact W.zret (v := (1 : Int32)) (ty := .boolean) hx hb hr rfl (fun t ht hW => ⟨⟨_, (), rfl, er, by dsimp only; rw [ht]; exact hP9⟩, by rw [hQ9]; exact hS.F ht⟩) hS.2.2 dX1_join_185
      · refine lv_iconst (v := 1) hx hb dX1_join_63 (by decide) ?_
        have e5 : mJoA tm jA g q = upd jA (mPl g q).toNatClampNeg tm := by simp [mJoA, mJoP, mJoC, mJoS, bI, b5, c16, c60]
        have e6 : mJoP pT g q = upd pT (mPl g q).toNatClampNeg ((1000000 : Int32)) := by simp [mJoA, mJoP, mJoC, mJoS, bI, b5, c16, c60]
        have e7 : mJoC tm hA jA pT cF g q bits = cF := by simp [mJoA, mJoP, mJoC, mJoS, bI, b5, c16, c60]
        have hP9 : va_P (dC, dI) vwCl (wM h a1 a2 a3 a4 a5 a6 cA me tm hA rA lT (mJoA tm jA g q) (mJoP pT g q) (mJoC tm hA jA pT cF g q bits)) H := by rw [e5, e6, e7]; exact hP
        have er : (1 : Int32) = bI (mBr g q) := by simp [mJoA, mJoP, mJoC, mJoS, bI, b5, c16, c60]
        exact W.zret (v := (1 : Int32)) (ty := .boolean) hx hb hr rfl (fun t ht hW => ⟨⟨_, (), rfl, er, by dsimp only; rw [ht]; exact hP9⟩, by rw [hQ9]; exact hS.F ht⟩) hS.2.2 dX1_join_64
  · have b5 := bI_z c5
    refine lv_iconst (v := 0) hx hb dX1_join_8 (by decide) ?_
    have e5 : mJoA tm jA g q = jA := by simp [mJoA, mJoP, mJoC, mJoS, bI, b5]
    have e6 : mJoP pT g q = pT := by simp [mJoA, mJoP, mJoC, mJoS, bI, b5]
    have e7 : mJoC tm hA jA pT cF g q bits = cF := by simp [mJoA, mJoP, mJoC, mJoS, bI, b5]
    have hP9 : va_P (dC, dI) vwCl (wM h a1 a2 a3 a4 a5 a6 cA me tm hA rA lT (mJoA tm jA g q) (mJoP pT g q) (mJoC tm hA jA pT cF g q bits)) s.heap := by rw [e5, e6, e7]; exact hP
    have er : (0 : Int32) = bI (mBr g q) := by simp [mJoA, mJoP, mJoC, mJoS, bI, b5]
    exact W.zret (v := (0 : Int32)) (ty := .boolean) hx hb hr rfl (fun t ht hW => ⟨⟨_, (), rfl, er, by dsimp only; rw [ht]; exact hP9⟩, by rw [hQ9]; exact hS.F ht⟩) hS.2.2 dX1_join_9
theorem hd_X1_join : yX1_join.cls = RX1 ∧ yX1_join.cls ≠ "java/lang/invoke/MethodHandle" ∧ yX1_join.cls ≠ "java/lang/invoke/VarHandle" ∧ (parseMethodDescriptor yX1_join.desc).map (fun d => d.parameters.length) = some 3 := by decide +kernel

theorem iwsX1_forgetAll : ∀ w ∈ u_ws RX1 TX1 8, w ∈ wsX1_forgetAll := fun _ h => List.mem_cons_of_mem _ (List.mem_append_right _ h)
set_option maxHeartbeats 4000000 in
set_option maxRecDepth 100000 in
theorem lp_X1_forgetAll_2 {p : Program} {e : Env} {s : State} {m : MethodId} {args : Array Value} {below : List Frame} {meth : Method} {c : Code} {cells slots : Nat} {Q : State → Prop} {A : Nat → Prop} {H0 : Heap} (l : Launch) (dC : Nat → ClassId) (dI : Nat → Nat → Nat) (h a1 a2 a3 a4 a5 a6 : Nat) (cA : ClassId) (me tm : Int32) (hA rA lT jA pT cF : Nat → Int32) (S : CallFix p m c cX1_forgetAll 2 s args wsX1_forgetAll RX1) (hK : va_K (dC, dI) vwCl [(cA, .int)] s) (hAA : ∀ q, H0.size ≤ q → A q) (hcs : cells + 0 ≤ 0 ∧ slots + 0 ≤ 0) (k : ∀ (H : Heap) (locs : List Loc) (ls : Array Slot), va_P (dC, dI) vwCl (wM h a1 a2 a3 a4 a5 a6 cA me tm (fillI hA (-1 : Int32) 10) rA lT jA pT cF) H → va_D A (wM h a1 a2 a3 a4 a5 a6 cA me tm (fillI hA (-1 : Int32) 10) rA lT jA pT cF) → va_S A H0 H locs → lv_has ls 2 [(0, .ref h), (1, .int (nI 10))] → W p l e ({ frames := 0, cells := 0, slots := 0, locals := 0 }) s m args below meth c H locs cells slots Q (F0 m 21 ls [])) : ∀ (n i : Nat), i + n = 10 → ∀ (H : Heap) (locs : List Loc) (ls : Array Slot), va_P (dC, dI) vwCl (wM h a1 a2 a3 a4 a5 a6 cA me tm (fillI hA (-1 : Int32) i) rA lT jA pT cF) H → va_D A (wM h a1 a2 a3 a4 a5 a6 cA me tm (fillI hA (-1 : Int32) i) rA lT jA pT cF) → va_S A H0 H locs → lv_has ls 2 [(0, .ref h), (1, .int (nI i))] → W p l e ({ frames := 0, cells := 0, slots := 0, locals := 0 }) s m args below meth c H locs cells slots Q (F0 m 2 ls []) := by
  obtain ⟨hx, hb, hml, hown, hts⟩ := id S
  intro n
  induction n with
  | zero =>
    intro i hi H locs ls hP hD hS hl
    obtain rfl : i = 10 := by omega
    refine lv_iload_n hx hb dX1_forgetAll_2 rfl (lv_at hl 1 rfl) ?_
    refine lv_bipush (v := 10) hx hb dX1_forgetAll_3 (by decide) ?_
    refine lv_icmp_ge (tgt := 21) hx hb dX1_forgetAll_5 (by decide) (fun c5 => ?_) (fun c5 => ?_)
    · exact k _ _ ls hP hD hS (lv_sub hl [0, 1] rfl)
    · exact absurd c5 (by decide)
  | succ n ih =>
    intro i hi H locs ls hP hD hS hl
    have hlt : i < 10 := by omega
    have hcl : (nI i).toNatClampNeg = i := nI_clamp (by omega)
    refine lv_iload_n hx hb dX1_forgetAll_2 rfl (lv_at hl 1 rfl) ?_
    refine lv_bipush (v := 10) hx hb dX1_forgetAll_3 (by decide) ?_
    refine lv_icmp_ge (tgt := 21) hx hb dX1_forgetAll_5 (by decide) (fun c5 => ?_) (fun c5 => ?_)
    · exact absurd c5 (nI_ge hlt (by decide))
    · refine lv_aload_n hx hb dX1_forgetAll_8 rfl (lv_at hl 0 rfl) ?_
      refine va_get (D := (dC, dI)) (ci := 1) (v := .ref a1) (C := RX1) (T := TX1) (N := 8) hx hb hts iwsX1_forgetAll hown hK hP 0 rfl rfl 2 (by decide) (hts (.fieldLink RX1 7 "BranchTimesModel" "helloAt" "[I") (by decide +kernel)) (fun _ h9 => h9) rfl dX1_forgetAll_9 ?_
      refine lv_iload_n hx hb dX1_forgetAll_12 rfl (lv_at hl 1 rfl) ?_
      refine lv_iconst (v := -1) hx hb dX1_forgetAll_13 (by decide) ?_
      refine va_iast (D := (dC, dI)) hx hb hK hP hD hS 1 0 rfl rfl (vp_in_nI hlt (by decide)) dX1_forgetAll_14 (fun H locs hP hD hS => ?_)
      have hP : va_P (dC, dI) vwCl (wM h a1 a2 a3 a4 a5 a6 cA me tm (upd (fillI hA (-1 : Int32) i) (nI i).toNatClampNeg ((-1 : Int32))) rA lT jA pT cF) H := hP
      have hD : va_D A (wM h a1 a2 a3 a4 a5 a6 cA me tm (upd (fillI hA (-1 : Int32) i) (nI i).toNatClampNeg ((-1 : Int32))) rA lT jA pT cF) := hD
      have hP : va_P (dC, dI) vwCl (wM h a1 a2 a3 a4 a5 a6 cA me tm (fillI hA (-1 : Int32) (i + 1)) rA lT jA pT cF) H := by rw [show fillI hA (-1 : Int32) (i + 1) = upd (fillI hA (-1 : Int32) i) (nI i).toNatClampNeg ((-1 : Int32)) from by simp only [hcl, fillI]]; exact hP
      have hD : va_D A (wM h a1 a2 a3 a4 a5 a6 cA me tm (fillI hA (-1 : Int32) (i + 1)) rA lT jA pT cF) := D_same hD rfl
      refine lv_iinc (v := nI (i + 1)) (lv' := [(1, .int (nI (i + 1))), (0, .ref h)]) hx hb dX1_forgetAll_15 hl (k := 1) rfl (nI_1 _) (by decide) rfl (fun ls hl => ?_)
      refine lv_goto (tgt := 2) hx hb dX1_forgetAll_18 (by decide) ?_
      exact ih (i + 1) (by omega) _ _ ls (by exact hP) (by exact hD) hS (lv_sub hl [1, 0] rfl)
set_option maxHeartbeats 4000000 in
set_option maxRecDepth 100000 in
theorem lp_X1_forgetAll_23 {p : Program} {e : Env} {s : State} {m : MethodId} {args : Array Value} {below : List Frame} {meth : Method} {c : Code} {cells slots : Nat} {Q : State → Prop} {A : Nat → Prop} {H0 : Heap} (l : Launch) (dC : Nat → ClassId) (dI : Nat → Nat → Nat) (h a1 a2 a3 a4 a5 a6 : Nat) (cA : ClassId) (me tm : Int32) (hA rA lT jA pT cF : Nat → Int32) (S : CallFix p m c cX1_forgetAll 2 s args wsX1_forgetAll RX1) (hK : va_K (dC, dI) vwCl [(cA, .int)] s) (hAA : ∀ q, H0.size ≤ q → A q) (hcs : cells + 0 ≤ 0 ∧ slots + 0 ≤ 0) (k : ∀ (H : Heap) (locs : List Loc) (ls : Array Slot), va_P (dC, dI) vwCl (wM h a1 a2 a3 a4 a5 a6 cA me tm hA (fillI rA (-1 : Int32) 8) lT jA pT cF) H → va_D A (wM h a1 a2 a3 a4 a5 a6 cA me tm hA (fillI rA (-1 : Int32) 8) lT jA pT cF) → va_S A H0 H locs → lv_has ls 2 [(0, .ref h), (1, .int (nI 8))] → W p l e ({ frames := 0, cells := 0, slots := 0, locals := 0 }) s m args below meth c H locs cells slots Q (F0 m 42 ls [])) : ∀ (n i : Nat), i + n = 8 → ∀ (H : Heap) (locs : List Loc) (ls : Array Slot), va_P (dC, dI) vwCl (wM h a1 a2 a3 a4 a5 a6 cA me tm hA (fillI rA (-1 : Int32) i) lT jA pT cF) H → va_D A (wM h a1 a2 a3 a4 a5 a6 cA me tm hA (fillI rA (-1 : Int32) i) lT jA pT cF) → va_S A H0 H locs → lv_has ls 2 [(0, .ref h), (1, .int (nI i))] → W p l e ({ frames := 0, cells := 0, slots := 0, locals := 0 }) s m args below meth c H locs cells slots Q (F0 m 23 ls []) := by
  obtain ⟨hx, hb, hml, hown, hts⟩ := id S
  intro n
  induction n with
  | zero =>
    intro i hi H locs ls hP hD hS hl
    obtain rfl : i = 8 := by omega
    refine lv_iload_n hx hb dX1_forgetAll_23 rfl (lv_at hl 1 rfl) ?_
    refine lv_bipush (v := 8) hx hb dX1_forgetAll_24 (by decide) ?_
    refine lv_icmp_ge (tgt := 42) hx hb dX1_forgetAll_26 (by decide) (fun c26 => ?_) (fun c26 => ?_)
    · exact k _ _ ls hP hD hS (lv_sub hl [0, 1] rfl)
    · exact absurd c26 (by decide)
  | succ n ih =>
    intro i hi H locs ls hP hD hS hl
    have hlt : i < 8 := by omega
    have hcl : (nI i).toNatClampNeg = i := nI_clamp (by omega)
    refine lv_iload_n hx hb dX1_forgetAll_23 rfl (lv_at hl 1 rfl) ?_
    refine lv_bipush (v := 8) hx hb dX1_forgetAll_24 (by decide) ?_
    refine lv_icmp_ge (tgt := 42) hx hb dX1_forgetAll_26 (by decide) (fun c26 => ?_) (fun c26 => ?_)
    · exact absurd c26 (nI_ge hlt (by decide))
    · refine lv_aload_n hx hb dX1_forgetAll_29 rfl (lv_at hl 0 rfl) ?_
      refine va_get (D := (dC, dI)) (ci := 1) (v := .ref a2) (C := RX1) (T := TX1) (N := 8) hx hb hts iwsX1_forgetAll hown hK hP 0 rfl rfl 3 (by decide) (hts (.fieldLink RX1 13 "BranchTimesModel" "reportAt" "[I") (by decide +kernel)) (fun _ h9 => h9) rfl dX1_forgetAll_30 ?_
      refine lv_iload_n hx hb dX1_forgetAll_33 rfl (lv_at hl 1 rfl) ?_
      refine lv_iconst (v := -1) hx hb dX1_forgetAll_34 (by decide) ?_
      refine va_iast (D := (dC, dI)) hx hb hK hP hD hS 2 0 rfl rfl (vp_in_nI hlt (by decide)) dX1_forgetAll_35 (fun H locs hP hD hS => ?_)
      have hP : va_P (dC, dI) vwCl (wM h a1 a2 a3 a4 a5 a6 cA me tm hA (upd (fillI rA (-1 : Int32) i) (nI i).toNatClampNeg ((-1 : Int32))) lT jA pT cF) H := hP
      have hD : va_D A (wM h a1 a2 a3 a4 a5 a6 cA me tm hA (upd (fillI rA (-1 : Int32) i) (nI i).toNatClampNeg ((-1 : Int32))) lT jA pT cF) := hD
      have hP : va_P (dC, dI) vwCl (wM h a1 a2 a3 a4 a5 a6 cA me tm hA (fillI rA (-1 : Int32) (i + 1)) lT jA pT cF) H := by rw [show fillI rA (-1 : Int32) (i + 1) = upd (fillI rA (-1 : Int32) i) (nI i).toNatClampNeg ((-1 : Int32)) from by simp only [hcl, fillI]]; exact hP
      have hD : va_D A (wM h a1 a2 a3 a4 a5 a6 cA me tm hA (fillI rA (-1 : Int32) (i + 1)) lT jA pT cF) := D_same hD rfl
      refine lv_iinc (v := nI (i + 1)) (lv' := [(1, .int (nI (i + 1))), (0, .ref h)]) hx hb dX1_forgetAll_36 hl (k := 1) rfl (nI_1 _) (by decide) rfl (fun ls hl => ?_)
      refine lv_goto (tgt := 23) hx hb dX1_forgetAll_39 (by decide) ?_
      exact ih (i + 1) (by omega) _ _ ls (by exact hP) (by exact hD) hS (lv_sub hl [1, 0] rfl)
set_option maxHeartbeats 4000000 in
set_option maxRecDepth 100000 in
theorem lp_X1_forgetAll_44 {p : Program} {e : Env} {s : State} {m : MethodId} {args : Array Value} {below : List Frame} {meth : Method} {c : Code} {cells slots : Nat} {Q : State → Prop} {A : Nat → Prop} {H0 : Heap} (l : Launch) (dC : Nat → ClassId) (dI : Nat → Nat → Nat) (h a1 a2 a3 a4 a5 a6 : Nat) (cA : ClassId) (me tm : Int32) (hA rA lT jA pT cF : Nat → Int32) (S : CallFix p m c cX1_forgetAll 2 s args wsX1_forgetAll RX1) (hK : va_K (dC, dI) vwCl [(cA, .int)] s) (hAA : ∀ q, H0.size ≤ q → A q) (hcs : cells + 0 ≤ 0 ∧ slots + 0 ≤ 0) (k : ∀ (H : Heap) (locs : List Loc) (ls : Array Slot), va_P (dC, dI) vwCl (wM h a1 a2 a3 a4 a5 a6 cA me tm hA rA lT (fillI jA (-1 : Int32) 136) pT cF) H → va_D A (wM h a1 a2 a3 a4 a5 a6 cA me tm hA rA lT (fillI jA (-1 : Int32) 136) pT cF) → va_S A H0 H locs → lv_has ls 2 [(0, .ref h), (1, .int (nI 136))] → W p l e ({ frames := 0, cells := 0, slots := 0, locals := 0 }) s m args below meth c H locs cells slots Q (F0 m 64 ls [])) : ∀ (n i : Nat), i + n = 136 → ∀ (H : Heap) (locs : List Loc) (ls : Array Slot), va_P (dC, dI) vwCl (wM h a1 a2 a3 a4 a5 a6 cA me tm hA rA lT (fillI jA (-1 : Int32) i) pT cF) H → va_D A (wM h a1 a2 a3 a4 a5 a6 cA me tm hA rA lT (fillI jA (-1 : Int32) i) pT cF) → va_S A H0 H locs → lv_has ls 2 [(0, .ref h), (1, .int (nI i))] → W p l e ({ frames := 0, cells := 0, slots := 0, locals := 0 }) s m args below meth c H locs cells slots Q (F0 m 44 ls []) := by
  obtain ⟨hx, hb, hml, hown, hts⟩ := id S
  intro n
  induction n with
  | zero =>
    intro i hi H locs ls hP hD hS hl
    obtain rfl : i = 136 := by omega
    refine lv_iload_n hx hb dX1_forgetAll_44 rfl (lv_at hl 1 rfl) ?_
    refine lv_sipush (v := 136) hx hb dX1_forgetAll_45 (by decide) ?_
    refine lv_icmp_ge (tgt := 64) hx hb dX1_forgetAll_48 (by decide) (fun c48 => ?_) (fun c48 => ?_)
    · exact k _ _ ls hP hD hS (lv_sub hl [0, 1] rfl)
    · exact absurd c48 (by decide)
  | succ n ih =>
    intro i hi H locs ls hP hD hS hl
    have hlt : i < 136 := by omega
    have hcl : (nI i).toNatClampNeg = i := nI_clamp (by omega)
    refine lv_iload_n hx hb dX1_forgetAll_44 rfl (lv_at hl 1 rfl) ?_
    refine lv_sipush (v := 136) hx hb dX1_forgetAll_45 (by decide) ?_
    refine lv_icmp_ge (tgt := 64) hx hb dX1_forgetAll_48 (by decide) (fun c48 => ?_) (fun c48 => ?_)
    · exact absurd c48 (nI_ge hlt (by decide))
    · refine lv_aload_n hx hb dX1_forgetAll_51 rfl (lv_at hl 0 rfl) ?_
      refine va_get (D := (dC, dI)) (ci := 1) (v := .ref a4) (C := RX1) (T := TX1) (N := 8) hx hb hts iwsX1_forgetAll hown hK hP 0 rfl rfl 5 (by decide) (hts (.fieldLink RX1 19 "BranchTimesModel" "joinAt" "[I") (by decide +kernel)) (fun _ h9 => h9) rfl dX1_forgetAll_52 ?_
      refine lv_iload_n hx hb dX1_forgetAll_55 rfl (lv_at hl 1 rfl) ?_
      refine lv_iconst (v := -1) hx hb dX1_forgetAll_56 (by decide) ?_
      refine va_iast (D := (dC, dI)) hx hb hK hP hD hS 4 0 rfl rfl (vp_in_nI hlt (by decide)) dX1_forgetAll_57 (fun H locs hP hD hS => ?_)
      have hP : va_P (dC, dI) vwCl (wM h a1 a2 a3 a4 a5 a6 cA me tm hA rA lT (upd (fillI jA (-1 : Int32) i) (nI i).toNatClampNeg ((-1 : Int32))) pT cF) H := hP
      have hD : va_D A (wM h a1 a2 a3 a4 a5 a6 cA me tm hA rA lT (upd (fillI jA (-1 : Int32) i) (nI i).toNatClampNeg ((-1 : Int32))) pT cF) := hD
      have hP : va_P (dC, dI) vwCl (wM h a1 a2 a3 a4 a5 a6 cA me tm hA rA lT (fillI jA (-1 : Int32) (i + 1)) pT cF) H := by rw [show fillI jA (-1 : Int32) (i + 1) = upd (fillI jA (-1 : Int32) i) (nI i).toNatClampNeg ((-1 : Int32)) from by simp only [hcl, fillI]]; exact hP
      have hD : va_D A (wM h a1 a2 a3 a4 a5 a6 cA me tm hA rA lT (fillI jA (-1 : Int32) (i + 1)) pT cF) := D_same hD rfl
      refine lv_iinc (v := nI (i + 1)) (lv' := [(1, .int (nI (i + 1))), (0, .ref h)]) hx hb dX1_forgetAll_58 hl (k := 1) rfl (nI_1 _) (by decide) rfl (fun ls hl => ?_)
      refine lv_goto (tgt := 44) hx hb dX1_forgetAll_61 (by decide) ?_
      exact ih (i + 1) (by omega) _ _ ls (by exact hP) (by exact hD) hS (lv_sub hl [1, 0] rfl)
set_option maxHeartbeats 4000000 in
set_option maxRecDepth 100000 in
theorem lp_X1_forgetAll_66 {p : Program} {e : Env} {s : State} {m : MethodId} {args : Array Value} {below : List Frame} {meth : Method} {c : Code} {cells slots : Nat} {Q : State → Prop} {A : Nat → Prop} {H0 : Heap} (l : Launch) (dC : Nat → ClassId) (dI : Nat → Nat → Nat) (h a1 a2 a3 a4 a5 a6 : Nat) (cA : ClassId) (me tm : Int32) (hA rA lT jA pT cF : Nat → Int32) (S : CallFix p m c cX1_forgetAll 2 s args wsX1_forgetAll RX1) (hK : va_K (dC, dI) vwCl [(cA, .int)] s) (hAA : ∀ q, H0.size ≤ q → A q) (hcs : cells + 0 ≤ 0 ∧ slots + 0 ≤ 0) (k : ∀ (H : Heap) (locs : List Loc) (ls : Array Slot), va_P (dC, dI) vwCl (wM h a1 a2 a3 a4 a5 a6 cA me tm hA rA lT jA pT (fillI cF (-1 : Int32) 128)) H → va_D A (wM h a1 a2 a3 a4 a5 a6 cA me tm hA rA lT jA pT (fillI cF (-1 : Int32) 128)) → va_S A H0 H locs → lv_has ls 2 [(0, .ref h), (1, .int (nI 128))] → W p l e ({ frames := 0, cells := 0, slots := 0, locals := 0 }) s m args below meth c H locs cells slots Q (F0 m 86 ls [])) : ∀ (n i : Nat), i + n = 128 → ∀ (H : Heap) (locs : List Loc) (ls : Array Slot), va_P (dC, dI) vwCl (wM h a1 a2 a3 a4 a5 a6 cA me tm hA rA lT jA pT (fillI cF (-1 : Int32) i)) H → va_D A (wM h a1 a2 a3 a4 a5 a6 cA me tm hA rA lT jA pT (fillI cF (-1 : Int32) i)) → va_S A H0 H locs → lv_has ls 2 [(0, .ref h), (1, .int (nI i))] → W p l e ({ frames := 0, cells := 0, slots := 0, locals := 0 }) s m args below meth c H locs cells slots Q (F0 m 66 ls []) := by
  obtain ⟨hx, hb, hml, hown, hts⟩ := id S
  intro n
  induction n with
  | zero =>
    intro i hi H locs ls hP hD hS hl
    obtain rfl : i = 128 := by omega
    refine lv_iload_n hx hb dX1_forgetAll_66 rfl (lv_at hl 1 rfl) ?_
    refine lv_sipush (v := 128) hx hb dX1_forgetAll_67 (by decide) ?_
    refine lv_icmp_ge (tgt := 86) hx hb dX1_forgetAll_70 (by decide) (fun c70 => ?_) (fun c70 => ?_)
    · exact k _ _ ls hP hD hS (lv_sub hl [0, 1] rfl)
    · exact absurd c70 (by decide)
  | succ n ih =>
    intro i hi H locs ls hP hD hS hl
    have hlt : i < 128 := by omega
    have hcl : (nI i).toNatClampNeg = i := nI_clamp (by omega)
    refine lv_iload_n hx hb dX1_forgetAll_66 rfl (lv_at hl 1 rfl) ?_
    refine lv_sipush (v := 128) hx hb dX1_forgetAll_67 (by decide) ?_
    refine lv_icmp_ge (tgt := 86) hx hb dX1_forgetAll_70 (by decide) (fun c70 => ?_) (fun c70 => ?_)
    · exact absurd c70 (nI_ge hlt (by decide))
    · refine lv_aload_n hx hb dX1_forgetAll_73 rfl (lv_at hl 0 rfl) ?_
      refine va_get (D := (dC, dI)) (ci := 1) (v := .ref a6) (C := RX1) (T := TX1) (N := 8) hx hb hts iwsX1_forgetAll hown hK hP 0 rfl rfl 7 (by decide) (hts (.fieldLink RX1 25 "BranchTimesModel" "cutFrom" "[I") (by decide +kernel)) (fun _ h9 => h9) rfl dX1_forgetAll_74 ?_
      refine lv_iload_n hx hb dX1_forgetAll_77 rfl (lv_at hl 1 rfl) ?_
      refine lv_iconst (v := -1) hx hb dX1_forgetAll_78 (by decide) ?_
      refine va_iast (D := (dC, dI)) hx hb hK hP hD hS 6 0 rfl rfl (vp_in_nI hlt (by decide)) dX1_forgetAll_79 (fun H locs hP hD hS => ?_)
      have hP : va_P (dC, dI) vwCl (wM h a1 a2 a3 a4 a5 a6 cA me tm hA rA lT jA pT (upd (fillI cF (-1 : Int32) i) (nI i).toNatClampNeg ((-1 : Int32)))) H := hP
      have hD : va_D A (wM h a1 a2 a3 a4 a5 a6 cA me tm hA rA lT jA pT (upd (fillI cF (-1 : Int32) i) (nI i).toNatClampNeg ((-1 : Int32)))) := hD
      have hP : va_P (dC, dI) vwCl (wM h a1 a2 a3 a4 a5 a6 cA me tm hA rA lT jA pT (fillI cF (-1 : Int32) (i + 1))) H := by rw [show fillI cF (-1 : Int32) (i + 1) = upd (fillI cF (-1 : Int32) i) (nI i).toNatClampNeg ((-1 : Int32)) from by simp only [hcl, fillI]]; exact hP
      have hD : va_D A (wM h a1 a2 a3 a4 a5 a6 cA me tm hA rA lT jA pT (fillI cF (-1 : Int32) (i + 1))) := D_same hD rfl
      refine lv_iinc (v := nI (i + 1)) (lv' := [(1, .int (nI (i + 1))), (0, .ref h)]) hx hb dX1_forgetAll_80 hl (k := 1) rfl (nI_1 _) (by decide) rfl (fun ls hl => ?_)
      refine lv_goto (tgt := 66) hx hb dX1_forgetAll_83 (by decide) ?_
      exact ih (i + 1) (by omega) _ _ ls (by exact hP) (by exact hD) hS (lv_sub hl [1, 0] rfl)
set_option maxHeartbeats 4000000 in
set_option maxRecDepth 100000 in
theorem c_X1_forgetAll (l : Launch) (dC : Nat → ClassId) (dI : Nat → Nat → Nat) (h a1 a2 a3 a4 a5 a6 : Nat) (cA : ClassId) (me tm : Int32) (hA rA lT jA pT cF : Nat → Int32) (sz : Nat) : Met l yX1_forgetAll wsX1_forgetAll ({ frames := 0, cells := 0, slots := 0, locals := 0 }) (PW [.ref h] dC dI cA (wM h a1 a2 a3 a4 a5 a6 cA me tm hA rA lT jA pT cF) sz) (QWv dC dI (wM h a1 a2 a3 a4 a5 a6 cA me tm hA rA lT jA pT cF) (wM h a1 a2 a3 a4 a5 a6 cA me tm (fillI hA (-1 : Int32) 10) (fillI rA (-1 : Int32) 8) lT (fillI jA (-1 : Int32) 136) pT (fillI cF (-1 : Int32) 128)) sz) 0 0 (va_A (wM h a1 a2 a3 a4 a5 a6 cA me tm hA rA lT jA pT cF) sz) := by
  refine Met.ofW (cc := cX1_forgetAll) (maxL := 2) (ret := none) (by decide) rfl ?_
  intro p e s m args below meth c s₁ B hml hv
  obtain ⟨rfl, hsz, hP, hK, hD0⟩ := hv
  have hx := B.exec
  have hb := B.bytes
  have hr := B.returns
  have hts := atoms_spec (ws := wsX1_forgetAll) B.pre
  have hown : s.vm.findClass RX1 = some m.cls := findClass_of_methodNamed B.named
  have hlocks := B.notSynchronized
  have S : CallFix p m c cX1_forgetAll 2 s ([.ref h] : List Value).toArray wsX1_forgetAll RX1 := ⟨hx, hb, hml, hown, hts⟩
  subst hsz
  have hD := hD0.self (sz := s.heap.size)
  generalize hAe : va_A (wM h a1 a2 a3 a4 a5 a6 cA me tm hA rA lT jA pT cF) s.heap.size = A at hD ⊢
  have hAA : ∀ q : Nat, s.heap.size ≤ q → A q := fun q h => by rw [← hAe]; exact Or.inr h
  have hS : va_S A s.heap s.heap [] := va_S.rf
  have hQ9 := hAe
  have hl := lv_entry ([.ref h]) (n := 2) (Nat.le_of_ble_eq_true rfl)
  rw [lg_entry_eq]
  generalize (lg_sl ([.ref h]) ++ List.replicate (2 - (lg_sl ([.ref h])).length) Slot.unset).toArray = ls at hl ⊢
  have hl : lv_has ls 2 [(0, .ref h)] := hl
  refine lv_iconst (v := 0) hx hb dX1_forgetAll_0 (by decide) ?_
  refine lv_istore_n (lv' := [(1, .int ((0 : Int32))), (0, .ref h)]) hx hb dX1_forgetAll_1 rfl hl (by decide) rfl (fun ls hl => ?_)
  refine lp_X1_forgetAll_2 l dC dI h a1 a2 a3 a4 a5 a6 cA me tm hA rA lT jA pT cF S hK hAA ⟨Nat.le_of_ble_eq_true rfl, Nat.le_of_ble_eq_true rfl⟩ (fun H locs ls hP hD hS hl => ?_) 10 0 rfl _ _ ls hP hD hS (lv_sub hl [1, 0] rfl)
  refine lv_iconst (v := 0) hx hb dX1_forgetAll_21 (by decide) ?_
  refine lv_istore_n (lv' := [(1, .int ((0 : Int32))), (0, .ref h)]) hx hb dX1_forgetAll_22 rfl hl (by decide) rfl (fun ls hl => ?_)
  refine lp_X1_forgetAll_23 l dC dI h a1 a2 a3 a4 a5 a6 cA me tm (fillI hA (-1 : Int32) 10) rA lT jA pT cF S hK hAA ⟨Nat.le_of_ble_eq_true rfl, Nat.le_of_ble_eq_true rfl⟩ (fun H locs ls hP hD hS hl => ?_) 8 0 rfl _ _ ls hP hD hS (lv_sub hl [1, 0] rfl)
  refine lv_iconst (v := 0) hx hb dX1_forgetAll_42 (by decide) ?_
  refine lv_istore_n (lv' := [(1, .int ((0 : Int32))), (0, .ref h)]) hx hb dX1_forgetAll_43 rfl hl (by decide) rfl (fun ls hl => ?_)
  refine lp_X1_forgetAll_44 l dC dI h a1 a2 a3 a4 a5 a6 cA me tm (fillI hA (-1 : Int32) 10) (fillI rA (-1 : Int32) 8) lT jA pT cF S hK hAA ⟨Nat.le_of_ble_eq_true rfl, Nat.le_of_ble_eq_true rfl⟩ (fun H locs ls hP hD hS hl => ?_) 136 0 rfl _ _ ls hP hD hS (lv_sub hl [1, 0] rfl)
  refine lv_iconst (v := 0) hx hb dX1_forgetAll_64 (by decide) ?_
  refine lv_istore_n (lv' := [(1, .int ((0 : Int32))), (0, .ref h)]) hx hb dX1_forgetAll_65 rfl hl (by decide) rfl (fun ls hl => ?_)
  refine lp_X1_forgetAll_66 l dC dI h a1 a2 a3 a4 a5 a6 cA me tm (fillI hA (-1 : Int32) 10) (fillI rA (-1 : Int32) 8) lT (fillI jA (-1 : Int32) 136) pT cF S hK hAA ⟨Nat.le_of_ble_eq_true rfl, Nat.le_of_ble_eq_true rfl⟩ (fun H locs ls hP hD hS hl => ?_) 128 0 rfl _ _ ls hP hD hS (lv_sub hl [1, 0] rfl)
  have hP9 : va_P (dC, dI) vwCl (wM h a1 a2 a3 a4 a5 a6 cA me tm (fillI hA (-1 : Int32) 10) (fillI rA (-1 : Int32) 8) lT (fillI jA (-1 : Int32) 136) pT (fillI cF (-1 : Int32) 128)) H := by exact hP
  exact W.vret hx hb hr (fun t ht hW => ⟨⟨(), rfl, trivial, by dsimp only; rw [ht]; exact hP9⟩, by rw [hQ9]; exact hS.F ht⟩) hS.2.2 dX1_forgetAll_86
theorem hd_X1_forgetAll : yX1_forgetAll.cls = RX1 ∧ yX1_forgetAll.cls ≠ "java/lang/invoke/MethodHandle" ∧ yX1_forgetAll.cls ≠ "java/lang/invoke/VarHandle" ∧ (parseMethodDescriptor yX1_forgetAll.desc).map (fun d => d.parameters.length) = some 0 := by decide +kernel

theorem iwsX1_forget : ∀ w ∈ u_ws RX1 TX1 8, w ∈ wsX1_forget := fun _ h => List.mem_cons_of_mem _ (List.mem_append_right _ h)
set_option maxHeartbeats 4000000 in
set_option maxRecDepth 100000 in
theorem c_X1_forget (l : Launch) (dC : Nat → ClassId) (dI : Nat → Nat → Nat) (h a1 a2 a3 a4 a5 a6 : Nat) (cA : ClassId) (me tm : Int32) (hA rA lT jA pT cF : Nat → Int32) (sz : Nat) : Met l yX1_forget wsX1_forget ({ frames := 1, cells := 0, slots := 0, locals := 21 }) (PW [.ref h] dC dI cA (wM h a1 a2 a3 a4 a5 a6 cA me tm hA rA lT jA pT cF) sz) (QWv dC dI (wM h a1 a2 a3 a4 a5 a6 cA me tm hA rA lT jA pT cF) (wM h a1 a2 a3 a4 a5 a6 cA me tm (fillI hA (-1 : Int32) 10) (fillI rA (-1 : Int32) 8) lT (fillI jA (-1 : Int32) 136) pT (fillI cF (-1 : Int32) 128)) sz) 0 0 (va_A (wM h a1 a2 a3 a4 a5 a6 cA me tm hA rA lT jA pT cF) sz) := by
  refine Met.ofW (cc := cX1_forget) (maxL := 1) (ret := none) (by decide) rfl ?_
  intro p e s m args below meth c s₁ B hml hv
  obtain ⟨rfl, hsz, hP, hK, hD0⟩ := hv
  have hx := B.exec
  have hb := B.bytes
  have hr := B.returns
  have hts := atoms_spec (ws := wsX1_forget) B.pre
  have hown : s.vm.findClass RX1 = some m.cls := findClass_of_methodNamed B.named
  have hlocks := B.notSynchronized
  have S : CallFix p m c cX1_forget 1 s ([.ref h] : List Value).toArray wsX1_forget RX1 := ⟨hx, hb, hml, hown, hts⟩
  subst hsz
  have hD := hD0.self (sz := s.heap.size)
  generalize hAe : va_A (wM h a1 a2 a3 a4 a5 a6 cA me tm hA rA lT jA pT cF) s.heap.size = A at hD ⊢
  have hAA : ∀ q : Nat, s.heap.size ≤ q → A q := fun q h => by rw [← hAe]; exact Or.inr h
  have hS : va_S A s.heap s.heap [] := va_S.rf
  have hQ9 := hAe
  have hl := lv_entry ([.ref h]) (n := 1) (Nat.le_of_ble_eq_true rfl)
  rw [lg_entry_eq]
  generalize (lg_sl ([.ref h]) ++ List.replicate (1 - (lg_sl ([.ref h])).length) Slot.unset).toArray = ls at hl ⊢
  have hl : lv_has ls 1 [(0, .ref h)] := hl
  refine lv_aload_n hx hb dX1_forget_0 rfl (lv_at hl 0 rfl) ?_
  refine wr_Vv (As := []) (rest := []) (ci := 1) (qc := (RX1, TX1, 8)) (wr := []) (A0 := A) S (c_X1_forgetAll l dC dI h a1 a2 a3 a4 a5 a6 cA me tm hA rA lT jA pT cF _) gX1_forget_X1_forgetAll rfl ⟨rfl, rfl⟩ hd_X1_forgetAll ⟨Nat.le_of_ble_eq_true rfl, Nat.le_of_ble_eq_true rfl⟩ hK hP hD hS hAA [0, 1, 2, 3, 4, 5, 6] [] rfl rfl (by decide) (by decide) (by decide) rfl rfl rfl rfl hl.1 rfl (Nat.le_of_ble_eq_true rfl) dX1_forget_1 ⟨Nat.le_of_ble_eq_true rfl, Nat.le_of_ble_eq_true rfl⟩ (fun H locs hP hD hS => ?_)
  have hP : va_P (dC, dI) vwCl (wM h a1 a2 a3 a4 a5 a6 cA me tm (fillI hA (-1 : Int32) 10) (fillI rA (-1 : Int32) 8) lT (fillI jA (-1 : Int32) 136) pT (fillI cF (-1 : Int32) 128)) H := hP
  have hD : va_D A (wM h a1 a2 a3 a4 a5 a6 cA me tm (fillI hA (-1 : Int32) 10) (fillI rA (-1 : Int32) 8) lT (fillI jA (-1 : Int32) 136) pT (fillI cF (-1 : Int32) 128)) := hD
  have hP9 : va_P (dC, dI) vwCl (wM h a1 a2 a3 a4 a5 a6 cA me tm (fillI hA (-1 : Int32) 10) (fillI rA (-1 : Int32) 8) lT (fillI jA (-1 : Int32) 136) pT (fillI cF (-1 : Int32) 128)) H := by exact hP
  exact W.vret hx hb hr (fun t ht hW => ⟨⟨(), rfl, trivial, by dsimp only; rw [ht]; exact hP9⟩, by rw [hQ9]; exact hS.F ht⟩) hS.2.2 dX1_forget_4
theorem hd_X1_forget : yX1_forget.cls = RX1 ∧ yX1_forget.cls ≠ "java/lang/invoke/MethodHandle" ∧ yX1_forget.cls ≠ "java/lang/invoke/VarHandle" ∧ (parseMethodDescriptor yX1_forget.desc).map (fun d => d.parameters.length) = some 0 := by decide +kernel
