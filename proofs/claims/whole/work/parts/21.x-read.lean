theorem iwsX0_isFirst : ∀ w ∈ u_ws RX0 TX0 7, w ∈ wsX0_isFirst := fun _ h => List.mem_cons_of_mem _ (List.mem_append_right _ h)
set_option maxHeartbeats 4000000 in
set_option maxRecDepth 100000 in
theorem c_X0_isFirst (l : Launch) (dC : Nat → ClassId) (dI : Nat → Nat → Nat) (h a1 a2 a3 a4 a5 : Nat) (cA : ClassId) (me tm : Int32) (fN fM fJ fT fC : Nat → Int32) : Met l yX0_isFirst wsX0_isFirst ({ frames := 2, cells := 0, slots := 0, locals := 43 }) (PR [.ref h] dC dI cA (wX h a1 a2 a3 a4 a5 cA me tm fN fM fJ fT fC)) (QcRead (bI (xFirst me (xNb tm fN)))) 0 0 (fun _ => False) := by
  refine Met.ofW (cc := cX0_isFirst) (maxL := 1) (ret := some .boolean) (by decide) rfl ?_
  intro p e s m args below meth c s₁ B hml hv
  obtain ⟨rfl, hP, hK⟩ := hv
  have hx := B.exec
  have hb := B.bytes
  have hr := B.returns
  have hts := atoms_spec (ws := wsX0_isFirst) B.pre
  have hown : s.vm.findClass RX0 = some m.cls := findClass_of_methodNamed B.named
  have hlocks := B.notSynchronized
  have S : CallFix p m c cX0_isFirst 1 s ([.ref h] : List Value).toArray wsX0_isFirst RX0 := ⟨hx, hb, hml, hown, hts⟩
  have hl := lv_entry ([.ref h]) (n := 1) (Nat.le_of_ble_eq_true rfl)
  rw [lg_entry_eq]
  generalize (lg_sl ([.ref h]) ++ List.replicate (1 - (lg_sl ([.ref h])).length) Slot.unset).toArray = ls at hl ⊢
  have hl : lv_has ls 1 [(0, .ref h)] := hl
  refine lv_aload_n hx hb dX0_isFirst_0 rfl (lv_at hl 0 rfl) ?_
  refine rd_V (As := []) (rest := []) (ci := 0) (qc := (RX0, TX0, 7)) S (c_X0_neighbourBits l dC dI h a1 a2 a3 a4 a5 cA me tm fN fM fJ fT fC) gX0_isFirst_X0_neighbourBits rfl ⟨rfl, rfl⟩ hd_X0_neighbourBits ⟨Nat.le_of_ble_eq_true rfl, Nat.le_of_ble_eq_true rfl⟩ hK hP rfl rfl rfl hl.1 rfl (Nat.le_of_ble_eq_true rfl) dX0_isFirst_1 ⟨Nat.le_of_ble_eq_true rfl, Nat.le_of_ble_eq_true rfl⟩ ?_
  refine lv_aload_n hx hb dX0_isFirst_4 rfl (lv_at hl 0 rfl) ?_
  refine va_get (D := (dC, dI)) (ci := 0) (v := .int me) (C := RX0) (T := TX0) (N := 7) hx hb hts iwsX0_isFirst hown hK hP 0 rfl rfl 0 (by decide) (hts (.fieldLink RX0 34 "BranchTimes" "me" "I") (by decide +kernel)) (fun _ h9 => h9) rfl dX0_isFirst_5 ?_
  refine lv_iconst (v := 1) hx hb dX0_isFirst_8 (by decide) ?_
  refine lv_iadd hx hb dX0_isFirst_9 ?_
  refine lv_ishr hx hb dX0_isFirst_10 ?_
  refine lv_if_ne (tgt := 18) hx hb dX0_isFirst_11 (by decide) (fun c11 => ?_) (fun c11 => ?_)
  · refine lv_iconst (v := 0) hx hb dX0_isFirst_18 (by decide) ?_
    have er : (0 : Int32) = bI (xFirst me (xNb tm fN)) := by simp [xFirst, bI, c11]
    exact W.zret (v := (0 : Int32)) (ty := .boolean) hx hb hr rfl (fun t ht hW => ⟨congrArg (fun z => Outcome.returned (some (Value.int z))) er, ht⟩) (fun q h => absurd h List.not_mem_nil) dX0_isFirst_19
  · refine lv_iconst (v := 1) hx hb dX0_isFirst_14 (by decide) ?_
    refine lv_goto (tgt := 19) hx hb dX0_isFirst_15 (by decide) ?_
    have er : (1 : Int32) = bI (xFirst me (xNb tm fN)) := by simp [xFirst, bI, c11]
    exact W.zret (v := (1 : Int32)) (ty := .boolean) hx hb hr rfl (fun t ht hW => ⟨congrArg (fun z => Outcome.returned (some (Value.int z))) er, ht⟩) (fun q h => absurd h List.not_mem_nil) dX0_isFirst_19
theorem hd_X0_isFirst : yX0_isFirst.cls = RX0 ∧ yX0_isFirst.cls ≠ "java/lang/invoke/MethodHandle" ∧ yX0_isFirst.cls ≠ "java/lang/invoke/VarHandle" ∧ (parseMethodDescriptor yX0_isFirst.desc).map (fun d => d.parameters.length) = some 0 := by decide +kernel

theorem iwsX0_isAsking : ∀ w ∈ u_ws RX0 TX0 7, w ∈ wsX0_isAsking := fun _ h => List.mem_cons_of_mem _ (List.mem_append_right _ h)
set_option maxHeartbeats 4000000 in
set_option maxRecDepth 100000 in
theorem c_X0_isAsking (l : Launch) (dC : Nat → ClassId) (dI : Nat → Nat → Nat) (h a1 a2 a3 a4 a5 : Nat) (cA : ClassId) (me tm : Int32) (fN fM fJ fT fC : Nat → Int32) : Met l yX0_isAsking wsX0_isAsking ({ frames := 2, cells := 0, slots := 0, locals := 43 }) (PR [.ref h] dC dI cA (wX h a1 a2 a3 a4 a5 cA me tm fN fM fJ fT fC)) (QcRead (bI (xAsk me (xNb tm fN)))) 0 0 (fun _ => False) := by
  refine Met.ofW (cc := cX0_isAsking) (maxL := 2) (ret := some .boolean) (by decide) rfl ?_
  intro p e s m args below meth c s₁ B hml hv
  obtain ⟨rfl, hP, hK⟩ := hv
  have hx := B.exec
  have hb := B.bytes
  have hr := B.returns
  have hts := atoms_spec (ws := wsX0_isAsking) B.pre
  have hown : s.vm.findClass RX0 = some m.cls := findClass_of_methodNamed B.named
  have hlocks := B.notSynchronized
  have S : CallFix p m c cX0_isAsking 2 s ([.ref h] : List Value).toArray wsX0_isAsking RX0 := ⟨hx, hb, hml, hown, hts⟩
  have hl := lv_entry ([.ref h]) (n := 2) (Nat.le_of_ble_eq_true rfl)
  rw [lg_entry_eq]
  generalize (lg_sl ([.ref h]) ++ List.replicate (2 - (lg_sl ([.ref h])).length) Slot.unset).toArray = ls at hl ⊢
  have hl : lv_has ls 2 [(0, .ref h)] := hl
  refine lv_iconst (v := 1) hx hb dX0_isAsking_0 (by decide) ?_
  refine lv_aload_n hx hb dX0_isAsking_1 rfl (lv_at hl 0 rfl) ?_
  refine va_get (D := (dC, dI)) (ci := 0) (v := .int me) (C := RX0) (T := TX0) (N := 7) hx hb hts iwsX0_isAsking hown hK hP 0 rfl rfl 0 (by decide) (hts (.fieldLink RX0 34 "BranchTimes" "me" "I") (by decide +kernel)) (fun _ h9 => h9) rfl dX0_isAsking_2 ?_
  refine lv_ishl hx hb dX0_isAsking_5 ?_
  refine lv_iconst (v := 1) hx hb dX0_isAsking_6 (by decide) ?_
  refine lv_isub hx hb dX0_isAsking_7 ?_
  refine lv_istore_n (lv' := [(1, .int ((((1 : Int32)) <<< (me &&& 31)) - ((1 : Int32)))), (0, .ref h)]) hx hb dX0_isAsking_8 rfl hl (by decide) rfl (fun ls hl => ?_)
  refine lv_aload_n hx hb dX0_isAsking_9 rfl (lv_at hl 1 rfl) ?_
  refine rd_V (As := []) (rest := []) (ci := 0) (qc := (RX0, TX0, 7)) S (c_X0_neighbourBits l dC dI h a1 a2 a3 a4 a5 cA me tm fN fM fJ fT fC) gX0_isAsking_X0_neighbourBits rfl ⟨rfl, rfl⟩ hd_X0_neighbourBits ⟨Nat.le_of_ble_eq_true rfl, Nat.le_of_ble_eq_true rfl⟩ hK hP rfl rfl rfl hl.1 rfl (Nat.le_of_ble_eq_true rfl) dX0_isAsking_10 ⟨Nat.le_of_ble_eq_true rfl, Nat.le_of_ble_eq_true rfl⟩ ?_
  refine lv_iload_n hx hb dX0_isAsking_13 rfl (lv_at hl 0 rfl) ?_
  refine lv_iand hx hb dX0_isAsking_14 ?_
  refine lv_if_ne (tgt := 22) hx hb dX0_isAsking_15 (by decide) (fun c15 => ?_) (fun c15 => ?_)
  · refine lv_iconst (v := 0) hx hb dX0_isAsking_22 (by decide) ?_
    have er : (0 : Int32) = bI (xAsk me (xNb tm fN)) := by simp [xAsk, bI, c15]
    exact W.zret (v := (0 : Int32)) (ty := .boolean) hx hb hr rfl (fun t ht hW => ⟨congrArg (fun z => Outcome.returned (some (Value.int z))) er, ht⟩) (fun q h => absurd h List.not_mem_nil) dX0_isAsking_23
  · refine lv_iconst (v := 1) hx hb dX0_isAsking_18 (by decide) ?_
    refine lv_goto (tgt := 23) hx hb dX0_isAsking_19 (by decide) ?_
    have er : (1 : Int32) = bI (xAsk me (xNb tm fN)) := by simp [xAsk, bI, c15]
    exact W.zret (v := (1 : Int32)) (ty := .boolean) hx hb hr rfl (fun t ht hW => ⟨congrArg (fun z => Outcome.returned (some (Value.int z))) er, ht⟩) (fun q h => absurd h List.not_mem_nil) dX0_isAsking_23
theorem hd_X0_isAsking : yX0_isAsking.cls = RX0 ∧ yX0_isAsking.cls ≠ "java/lang/invoke/MethodHandle" ∧ yX0_isAsking.cls ≠ "java/lang/invoke/VarHandle" ∧ (parseMethodDescriptor yX0_isAsking.desc).map (fun d => d.parameters.length) = some 0 := by decide +kernel

theorem iwsX0_isCrowded : ∀ w ∈ u_ws RX0 TX0 7, w ∈ wsX0_isCrowded := fun _ h => List.mem_cons_of_mem _ (List.mem_append_right _ h)
set_option maxHeartbeats 4000000 in
set_option maxRecDepth 100000 in
theorem c_X0_isCrowded (l : Launch) (dC : Nat → ClassId) (dI : Nat → Nat → Nat) (h a1 a2 a3 a4 a5 : Nat) (cA : ClassId) (me tm : Int32) (fN fM fJ fT fC : Nat → Int32) : Met l yX0_isCrowded wsX0_isCrowded ({ frames := 2, cells := 0, slots := 0, locals := 43 }) (PR [.ref h] dC dI cA (wX h a1 a2 a3 a4 a5 cA me tm fN fM fJ fT fC)) (QcRead (bI (xCrowd (xNb tm fN)))) 0 0 (fun _ => False) := by
  refine Met.ofW (cc := cX0_isCrowded) (maxL := 1) (ret := some .boolean) (by decide) rfl ?_
  intro p e s m args below meth c s₁ B hml hv
  obtain ⟨rfl, hP, hK⟩ := hv
  have hx := B.exec
  have hb := B.bytes
  have hr := B.returns
  have hts := atoms_spec (ws := wsX0_isCrowded) B.pre
  have hown : s.vm.findClass RX0 = some m.cls := findClass_of_methodNamed B.named
  have hlocks := B.notSynchronized
  have S : CallFix p m c cX0_isCrowded 1 s ([.ref h] : List Value).toArray wsX0_isCrowded RX0 := ⟨hx, hb, hml, hown, hts⟩
  have hl := lv_entry ([.ref h]) (n := 1) (Nat.le_of_ble_eq_true rfl)
  rw [lg_entry_eq]
  generalize (lg_sl ([.ref h]) ++ List.replicate (1 - (lg_sl ([.ref h])).length) Slot.unset).toArray = ls at hl ⊢
  have hl : lv_has ls 1 [(0, .ref h)] := hl
  refine lv_aload_n hx hb dX0_isCrowded_0 rfl (lv_at hl 0 rfl) ?_
  refine rd_V (As := []) (rest := []) (ci := 0) (qc := (RX0, TX0, 7)) S (c_X0_neighbourBits l dC dI h a1 a2 a3 a4 a5 cA me tm fN fM fJ fT fC) gX0_isCrowded_X0_neighbourBits rfl ⟨rfl, rfl⟩ hd_X0_neighbourBits ⟨Nat.le_of_ble_eq_true rfl, Nat.le_of_ble_eq_true rfl⟩ hK hP rfl rfl rfl hl.1 rfl (Nat.le_of_ble_eq_true rfl) dX0_isCrowded_1 ⟨Nat.le_of_ble_eq_true rfl, Nat.le_of_ble_eq_true rfl⟩ ?_
  refine rd_S (As := [.int (xNb tm fN)]) (rest := []) S (c_J6_bitCount_0f7a4 l (xNb tm fN)) gX0_isCrowded_J6_bitCount_0f7a4 rfl ⟨rfl, rfl⟩ hd_J6_bitCount_0f7a4 ⟨Nat.le_of_ble_eq_true rfl, Nat.le_of_ble_eq_true rfl⟩ rfl hl.1 rfl (Nat.le_of_ble_eq_true rfl) dX0_isCrowded_4 ⟨Nat.le_of_ble_eq_true rfl, Nat.le_of_ble_eq_true rfl⟩ ?_
  refine lv_iconst (v := 2) hx hb dX0_isCrowded_7 (by decide) ?_
  refine lv_icmp_lt (tgt := 15) hx hb dX0_isCrowded_8 (by decide) (fun c8 => ?_) (fun c8 => ?_)
  · refine lv_iconst (v := 0) hx hb dX0_isCrowded_15 (by decide) ?_
    have er : (0 : Int32) = bI (xCrowd (xNb tm fN)) := by simp [xCrowd, bI, c8]
    exact W.zret (v := (0 : Int32)) (ty := .boolean) hx hb hr rfl (fun t ht hW => ⟨congrArg (fun z => Outcome.returned (some (Value.int z))) er, ht⟩) (fun q h => absurd h List.not_mem_nil) dX0_isCrowded_16
  · refine lv_iconst (v := 1) hx hb dX0_isCrowded_11 (by decide) ?_
    refine lv_goto (tgt := 16) hx hb dX0_isCrowded_12 (by decide) ?_
    have er : (1 : Int32) = bI (xCrowd (xNb tm fN)) := by simp [xCrowd, bI, c8]
    exact W.zret (v := (1 : Int32)) (ty := .boolean) hx hb hr rfl (fun t ht hW => ⟨congrArg (fun z => Outcome.returned (some (Value.int z))) er, ht⟩) (fun q h => absurd h List.not_mem_nil) dX0_isCrowded_16
theorem hd_X0_isCrowded : yX0_isCrowded.cls = RX0 ∧ yX0_isCrowded.cls ≠ "java/lang/invoke/MethodHandle" ∧ yX0_isCrowded.cls ≠ "java/lang/invoke/VarHandle" ∧ (parseMethodDescriptor yX0_isCrowded.desc).map (fun d => d.parameters.length) = some 0 := by decide +kernel

theorem iwsX0_timeOfEffect : ∀ w ∈ u_ws RX0 TX0 7, w ∈ wsX0_timeOfEffect := fun _ h => List.mem_cons_of_mem _ (List.mem_append_right _ h)
set_option maxHeartbeats 4000000 in
set_option maxRecDepth 100000 in
theorem c_X0_timeOfEffect (l : Launch) (dC : Nat → ClassId) (dI : Nat → Nat → Nat) (h a1 a2 a3 a4 a5 : Nat) (cA : ClassId) (me tm : Int32) (fN fM fJ fT fC : Nat → Int32) : Met l yX0_timeOfEffect wsX0_timeOfEffect ({ frames := 3, cells := 0, slots := 0, locals := 63 }) (PR [.ref h] dC dI cA (wX h a1 a2 a3 a4 a5 cA me tm fN fM fJ fT fC)) (QcRead (xEff tm (xNb tm fN))) 0 0 (fun _ => False) := by
  refine Met.ofW (cc := cX0_timeOfEffect) (maxL := 1) (ret := some .int) (by decide) rfl ?_
  intro p e s m args below meth c s₁ B hml hv
  obtain ⟨rfl, hP, hK⟩ := hv
  have hx := B.exec
  have hb := B.bytes
  have hr := B.returns
  have hts := atoms_spec (ws := wsX0_timeOfEffect) B.pre
  have hown : s.vm.findClass RX0 = some m.cls := findClass_of_methodNamed B.named
  have hlocks := B.notSynchronized
  have S : CallFix p m c cX0_timeOfEffect 1 s ([.ref h] : List Value).toArray wsX0_timeOfEffect RX0 := ⟨hx, hb, hml, hown, hts⟩
  have hl := lv_entry ([.ref h]) (n := 1) (Nat.le_of_ble_eq_true rfl)
  rw [lg_entry_eq]
  generalize (lg_sl ([.ref h]) ++ List.replicate (1 - (lg_sl ([.ref h])).length) Slot.unset).toArray = ls at hl ⊢
  have hl : lv_has ls 1 [(0, .ref h)] := hl
  refine lv_aload_n hx hb dX0_timeOfEffect_0 rfl (lv_at hl 0 rfl) ?_
  refine rd_V (As := []) (rest := []) (ci := 0) (qc := (RX0, TX0, 7)) S (c_X0_isCrowded l dC dI h a1 a2 a3 a4 a5 cA me tm fN fM fJ fT fC) gX0_timeOfEffect_X0_isCrowded rfl ⟨rfl, rfl⟩ hd_X0_isCrowded ⟨Nat.le_of_ble_eq_true rfl, Nat.le_of_ble_eq_true rfl⟩ hK hP rfl rfl rfl hl.1 rfl (Nat.le_of_ble_eq_true rfl) dX0_timeOfEffect_1 ⟨Nat.le_of_ble_eq_true rfl, Nat.le_of_ble_eq_true rfl⟩ ?_
  refine lv_if_eq (tgt := 16) hx hb dX0_timeOfEffect_4 (by decide) (fun c4 => ?_) (fun c4 => ?_)
  · have b4 := bI_z c4
    refine lv_aload_n hx hb dX0_timeOfEffect_16 rfl (lv_at hl 0 rfl) ?_
    refine va_get (D := (dC, dI)) (ci := 0) (v := .int tm) (C := RX0) (T := TX0) (N := 7) hx hb hts iwsX0_timeOfEffect hown hK hP 0 rfl rfl 1 (by decide) (hts (.fieldLink RX0 38 "BranchTimes" "time" "I") (by decide +kernel)) (fun _ h9 => h9) rfl dX0_timeOfEffect_17 ?_
    have er : tm = xEff tm (xNb tm fN) := by simp [xEff, b4]
    exact W.iret (v := tm) hx hb hr (fun t ht hW => ⟨congrArg (fun z => Outcome.returned (some (Value.int z))) er, ht⟩) (fun q h => absurd h List.not_mem_nil) dX0_timeOfEffect_20
  · have b4 := bI_nz c4
    refine lv_aload_n hx hb dX0_timeOfEffect_7 rfl (lv_at hl 0 rfl) ?_
    refine va_get (D := (dC, dI)) (ci := 0) (v := .int tm) (C := RX0) (T := TX0) (N := 7) hx hb hts iwsX0_timeOfEffect hown hK hP 0 rfl rfl 1 (by decide) (hts (.fieldLink RX0 38 "BranchTimes" "time" "I") (by decide +kernel)) (fun _ h9 => h9) rfl dX0_timeOfEffect_8 ?_
    refine lv_iconst (v := 3) hx hb dX0_timeOfEffect_11 (by decide) ?_
    refine lv_iadd hx hb dX0_timeOfEffect_12 ?_
    refine lv_goto (tgt := 20) hx hb dX0_timeOfEffect_13 (by decide) ?_
    have er : tm + ((3 : Int32)) = xEff tm (xNb tm fN) := by simp [xEff, b4]
    exact W.iret (v := tm + ((3 : Int32))) hx hb hr (fun t ht hW => ⟨congrArg (fun z => Outcome.returned (some (Value.int z))) er, ht⟩) (fun q h => absurd h List.not_mem_nil) dX0_timeOfEffect_20
theorem hd_X0_timeOfEffect : yX0_timeOfEffect.cls = RX0 ∧ yX0_timeOfEffect.cls ≠ "java/lang/invoke/MethodHandle" ∧ yX0_timeOfEffect.cls ≠ "java/lang/invoke/VarHandle" ∧ (parseMethodDescriptor yX0_timeOfEffect.desc).map (fun d => d.parameters.length) = some 0 := by decide +kernel

theorem iwsX0_isJoinedForStar : ∀ w ∈ u_ws RX0 TX0 7, w ∈ wsX0_isJoinedForStar := fun _ h => List.mem_cons_of_mem _ (List.mem_append_right _ h)
set_option maxHeartbeats 4000000 in
set_option maxRecDepth 100000 in
theorem c_X0_isJoinedForStar (l : Launch) (dC : Nat → ClassId) (dI : Nat → Nat → Nat) (h a1 a2 a3 a4 a5 : Nat) (cA : ClassId) (me tm : Int32) (fN fM fJ fT fC : Nat → Int32) (g : Int32) (hg : xG g = true) : Met l yX0_isJoinedForStar wsX0_isJoinedForStar ({ frames := 1, cells := 0, slots := 0, locals := 21 }) (PR [.ref h, .int g] dC dI cA (wX h a1 a2 a3 a4 a5 cA me tm fN fM fJ fT fC)) (QcRead (bI (xStar tm fJ g))) 0 0 (fun _ => False) := by
  refine Met.ofW (cc := cX0_isJoinedForStar) (maxL := 2) (ret := some .boolean) (by decide) rfl ?_
  intro p e s m args below meth c s₁ B hml hv
  obtain ⟨rfl, hP, hK⟩ := hv
  have hx := B.exec
  have hb := B.bytes
  have hr := B.returns
  have hts := atoms_spec (ws := wsX0_isJoinedForStar) B.pre
  have hown : s.vm.findClass RX0 = some m.cls := findClass_of_methodNamed B.named
  have hlocks := B.notSynchronized
  have S : CallFix p m c cX0_isJoinedForStar 2 s ([.ref h, .int g] : List Value).toArray wsX0_isJoinedForStar RX0 := ⟨hx, hb, hml, hown, hts⟩
  have hl := lv_entry ([.ref h, .int g]) (n := 2) (Nat.le_of_ble_eq_true rfl)
  rw [lg_entry_eq]
  generalize (lg_sl ([.ref h, .int g]) ++ List.replicate (2 - (lg_sl ([.ref h, .int g])).length) Slot.unset).toArray = ls at hl ⊢
  have hl : lv_has ls 2 [(0, .ref h), (1, .int g)] := hl
  refine lv_aload_n hx hb dX0_isJoinedForStar_0 rfl (lv_at hl 0 rfl) ?_
  refine lv_aload_n hx hb dX0_isJoinedForStar_1 rfl (lv_at hl 0 rfl) ?_
  refine va_get (D := (dC, dI)) (ci := 0) (v := .ref a3) (C := RX0) (T := TX0) (N := 7) hx hb hts iwsX0_isJoinedForStar hown hK hP 0 rfl rfl 4 (by decide) (hts (.fieldLink RX0 16 "BranchTimes" "joinedTill" "[I") (by decide +kernel)) (fun _ h9 => h9) rfl dX0_isJoinedForStar_2 ?_
  refine lv_iload_n hx hb dX0_isJoinedForStar_5 rfl (lv_at hl 1 rfl) ?_
  refine lv_iconst (v := -1) hx hb dX0_isJoinedForStar_6 (by decide) ?_
  refine rd_S (As := [.int g, .int ((-1 : Int32))]) (rest := [.ref a3, .ref h]) S (c_X0_branchPlace l g ((-1 : Int32))) gX0_isJoinedForStar_X0_branchPlace rfl ⟨rfl, rfl⟩ hd_X0_branchPlace ⟨Nat.le_of_ble_eq_true rfl, Nat.le_of_ble_eq_true rfl⟩ rfl hl.1 rfl (Nat.le_of_ble_eq_true rfl) dX0_isJoinedForStar_7 ⟨Nat.le_of_ble_eq_true rfl, Nat.le_of_ble_eq_true rfl⟩ ?_
  refine va_iald (D := (dC, dI)) hx hb hK hP 3 0 rfl rfl (Pl_in hg (by decide)) dX0_isJoinedForStar_10 ?_
  refine rd_V (As := [.int (fJ (xPl g ((-1 : Int32))).toNatClampNeg)]) (rest := []) (ci := 0) (qc := (RX0, TX0, 7)) S (c_X0_stands l dC dI h a1 a2 a3 a4 a5 cA me tm fN fM fJ fT fC (fJ (xPl g ((-1 : Int32))).toNatClampNeg)) gX0_isJoinedForStar_X0_stands rfl ⟨rfl, rfl⟩ hd_X0_stands ⟨Nat.le_of_ble_eq_true rfl, Nat.le_of_ble_eq_true rfl⟩ hK hP rfl rfl rfl hl.1 rfl (Nat.le_of_ble_eq_true rfl) dX0_isJoinedForStar_11 ⟨Nat.le_of_ble_eq_true rfl, Nat.le_of_ble_eq_true rfl⟩ ?_
  exact W.zret (v := bI (xSt tm (fJ (xPl g ((-1 : Int32))).toNatClampNeg))) (ty := .boolean) hx hb hr (nar_bI _) (fun t ht hW => ⟨rfl, ht⟩) (fun q h => absurd h List.not_mem_nil) dX0_isJoinedForStar_14
theorem hd_X0_isJoinedForStar : yX0_isJoinedForStar.cls = RX0 ∧ yX0_isJoinedForStar.cls ≠ "java/lang/invoke/MethodHandle" ∧ yX0_isJoinedForStar.cls ≠ "java/lang/invoke/VarHandle" ∧ (parseMethodDescriptor yX0_isJoinedForStar.desc).map (fun d => d.parameters.length) = some 1 := by decide +kernel

theorem iwsX0_isCutOff : ∀ w ∈ u_ws RX0 TX0 7, w ∈ wsX0_isCutOff := fun _ h => List.mem_cons_of_mem _ (List.mem_append_right _ h)
set_option maxHeartbeats 4000000 in
set_option maxRecDepth 100000 in
theorem c_X0_isCutOff (l : Launch) (dC : Nat → ClassId) (dI : Nat → Nat → Nat) (h a1 a2 a3 a4 a5 : Nat) (cA : ClassId) (me tm : Int32) (fN fM fJ fT fC : Nat → Int32) (g q : Int32) (hg : xG g = true) (hq : xSrc q = true) : Met l yX0_isCutOff wsX0_isCutOff ({ frames := 1, cells := 0, slots := 0, locals := 21 }) (PR [.ref h, .int g, .int q] dC dI cA (wX h a1 a2 a3 a4 a5 cA me tm fN fM fJ fT fC)) (QcRead (bI (xCut tm fT fC g q))) 0 0 (fun _ => False) := by
  refine Met.ofW (cc := cX0_isCutOff) (maxL := 3) (ret := some .boolean) (by decide) rfl ?_
  intro p e s m args below meth c s₁ B hml hv
  obtain ⟨rfl, hP, hK⟩ := hv
  have hx := B.exec
  have hb := B.bytes
  have hr := B.returns
  have hts := atoms_spec (ws := wsX0_isCutOff) B.pre
  have hown : s.vm.findClass RX0 = some m.cls := findClass_of_methodNamed B.named
  have hlocks := B.notSynchronized
  have S : CallFix p m c cX0_isCutOff 3 s ([.ref h, .int g, .int q] : List Value).toArray wsX0_isCutOff RX0 := ⟨hx, hb, hml, hown, hts⟩
  have hl := lv_entry ([.ref h, .int g, .int q]) (n := 3) (Nat.le_of_ble_eq_true rfl)
  rw [lg_entry_eq]
  generalize (lg_sl ([.ref h, .int g, .int q]) ++ List.replicate (3 - (lg_sl ([.ref h, .int g, .int q])).length) Slot.unset).toArray = ls at hl ⊢
  have hl : lv_has ls 3 [(0, .ref h), (1, .int g), (2, .int q)] := hl
  refine lv_aload_n hx hb dX0_isCutOff_0 rfl (lv_at hl 0 rfl) ?_
  refine va_get (D := (dC, dI)) (ci := 0) (v := .ref a4) (C := RX0) (T := TX0) (N := 7) hx hb hts iwsX0_isCutOff hown hK hP 0 rfl rfl 5 (by decide) (hts (.fieldLink RX0 19 "BranchTimes" "told" "[I") (by decide +kernel)) (fun _ h9 => h9) rfl dX0_isCutOff_1 ?_
  refine lv_iload_n hx hb dX0_isCutOff_4 rfl (lv_at hl 1 rfl) ?_
  refine va_iald (D := (dC, dI)) hx hb hK hP 4 0 rfl rfl (G_in hg) dX0_isCutOff_5 ?_
  refine lv_iload_n hx hb dX0_isCutOff_6 rfl (lv_at hl 2 rfl) ?_
  refine rd_S (As := [.int (fT g.toNatClampNeg), .int q]) (rest := []) S (c_X0_hasBit l (fT g.toNatClampNeg) q) gX0_isCutOff_X0_hasBit rfl ⟨rfl, rfl⟩ hd_X0_hasBit ⟨Nat.le_of_ble_eq_true rfl, Nat.le_of_ble_eq_true rfl⟩ rfl hl.1 rfl (Nat.le_of_ble_eq_true rfl) dX0_isCutOff_7 ⟨Nat.le_of_ble_eq_true rfl, Nat.le_of_ble_eq_true rfl⟩ ?_
  refine lv_if_eq (tgt := 34) hx hb dX0_isCutOff_10 (by decide) (fun c10 => ?_) (fun c10 => ?_)
  · have b10 := bI_z c10
    refine lv_iconst (v := 0) hx hb dX0_isCutOff_34 (by decide) ?_
    have er : (0 : Int32) = bI (xCut tm fT fC g q) := by simp [xCut, bI, b10]
    exact W.zret (v := (0 : Int32)) (ty := .boolean) hx hb hr rfl (fun t ht hW => ⟨congrArg (fun z => Outcome.returned (some (Value.int z))) er, ht⟩) (fun q h => absurd h List.not_mem_nil) dX0_isCutOff_35
  · have b10 := bI_nz c10
    refine lv_aload_n hx hb dX0_isCutOff_13 rfl (lv_at hl 0 rfl) ?_
    refine va_get (D := (dC, dI)) (ci := 0) (v := .int tm) (C := RX0) (T := TX0) (N := 7) hx hb hts iwsX0_isCutOff hown hK hP 0 rfl rfl 1 (by decide) (hts (.fieldLink RX0 38 "BranchTimes" "time" "I") (by decide +kernel)) (fun _ h9 => h9) rfl dX0_isCutOff_14 ?_
    refine lv_aload_n hx hb dX0_isCutOff_17 rfl (lv_at hl 0 rfl) ?_
    refine va_get (D := (dC, dI)) (ci := 0) (v := .ref a5) (C := RX0) (T := TX0) (N := 7) hx hb hts iwsX0_isCutOff hown hK hP 0 rfl rfl 6 (by decide) (hts (.fieldLink RX0 22 "BranchTimes" "cutFrom" "[I") (by decide +kernel)) (fun _ h9 => h9) rfl dX0_isCutOff_18 ?_
    refine lv_iload_n hx hb dX0_isCutOff_21 rfl (lv_at hl 1 rfl) ?_
    refine lv_iload_n hx hb dX0_isCutOff_22 rfl (lv_at hl 2 rfl) ?_
    refine rd_S (As := [.int g, .int q]) (rest := [.ref a5, .int tm]) S (c_X0_cutPlace l g q) gX0_isCutOff_X0_cutPlace rfl ⟨rfl, rfl⟩ hd_X0_cutPlace ⟨Nat.le_of_ble_eq_true rfl, Nat.le_of_ble_eq_true rfl⟩ rfl hl.1 rfl (Nat.le_of_ble_eq_true rfl) dX0_isCutOff_23 ⟨Nat.le_of_ble_eq_true rfl, Nat.le_of_ble_eq_true rfl⟩ ?_
    refine va_iald (D := (dC, dI)) hx hb hK hP 5 0 rfl rfl (Cp_in hg hq) dX0_isCutOff_26 ?_
    refine lv_icmp_lt (tgt := 34) hx hb dX0_isCutOff_27 (by decide) (fun c27 => ?_) (fun c27 => ?_)
    · refine lv_iconst (v := 0) hx hb dX0_isCutOff_34 (by decide) ?_
      have er : (0 : Int32) = bI (xCut tm fT fC g q) := by simp [xCut, bI, b10, c27]
      exact W.zret (v := (0 : Int32)) (ty := .boolean) hx hb hr rfl (fun t ht hW => ⟨congrArg (fun z => Outcome.returned (some (Value.int z))) er, ht⟩) (fun q h => absurd h List.not_mem_nil) dX0_isCutOff_35
    · refine lv_iconst (v := 1) hx hb dX0_isCutOff_30 (by decide) ?_
      refine lv_goto (tgt := 35) hx hb dX0_isCutOff_31 (by decide) ?_
      have er : (1 : Int32) = bI (xCut tm fT fC g q) := by simp [xCut, bI, b10, c27]
      exact W.zret (v := (1 : Int32)) (ty := .boolean) hx hb hr rfl (fun t ht hW => ⟨congrArg (fun z => Outcome.returned (some (Value.int z))) er, ht⟩) (fun q h => absurd h List.not_mem_nil) dX0_isCutOff_35
theorem hd_X0_isCutOff : yX0_isCutOff.cls = RX0 ∧ yX0_isCutOff.cls ≠ "java/lang/invoke/MethodHandle" ∧ yX0_isCutOff.cls ≠ "java/lang/invoke/VarHandle" ∧ (parseMethodDescriptor yX0_isCutOff.desc).map (fun d => d.parameters.length) = some 2 := by decide +kernel

theorem iwsX0_sourcesThatGo : ∀ w ∈ u_ws RX0 TX0 7, w ∈ wsX0_sourcesThatGo := fun _ h => List.mem_cons_of_mem _ (List.mem_append_right _ h)
set_option maxHeartbeats 4000000 in
set_option maxRecDepth 100000 in
theorem lp_X0_sourcesThatGo_34 {p : Program} {e : Env} {s : State} {m : MethodId} {args : Array Value} {below : List Frame} {meth : Method} {c : Code} {cells slots : Nat} {Q : State → Prop} {H : Heap} {locs : List Loc} (l : Launch) (dC : Nat → ClassId) (dI : Nat → Nat → Nat) (h a1 a2 a3 a4 a5 : Nat) (cA : ClassId) (me tm : Int32) (fN fM fJ fT fC : Nat → Int32) (g : Int32) (hg : xG g = true) (S : CallFix p m c cX0_sourcesThatGo 5 s args wsX0_sourcesThatGo RX0) (hK : va_K (dC, dI) vwCl [(cA, .int)] s) (hP : va_P (dC, dI) vwCl (wX h a1 a2 a3 a4 a5 cA me tm fN fM fJ fT fC) H) (hcs : cells + 0 ≤ 0 ∧ slots + 0 ≤ 0) (k : ∀ (ls : Array Slot), lv_has ls 5 [(0, .ref h), (1, .int g), (2, .int (bI (xStar tm fJ g))), (3, .int (bitsI (xGoq tm fJ fT fC g) 16)), (4, .int (nI 16))] → W p l e ({ frames := 3, cells := 0, slots := 0, locals := 63 }) s m args below meth c H locs cells slots Q (F0 m 86 ls [])) : ∀ (n i : Nat), i + n = 16 → ∀ (ls : Array Slot), lv_has ls 5 [(0, .ref h), (1, .int g), (2, .int (bI (xStar tm fJ g))), (3, .int (bitsI (xGoq tm fJ fT fC g) i)), (4, .int (nI i))] → W p l e ({ frames := 3, cells := 0, slots := 0, locals := 63 }) s m args below meth c H locs cells slots Q (F0 m 34 ls []) := by
  obtain ⟨hx, hb, hml, hown, hts⟩ := id S
  intro n
  induction n with
  | zero =>
    intro i hi ls hl
    obtain rfl : i = 16 := by omega
    refine lv_iload hx hb dX0_sourcesThatGo_34 (lv_at hl 4 rfl) ?_
    refine lv_bipush (v := 16) hx hb dX0_sourcesThatGo_36 (by decide) ?_
    refine lv_icmp_ge (tgt := 86) hx hb dX0_sourcesThatGo_38 (by decide) (fun c38 => ?_) (fun c38 => ?_)
    · exact k ls (lv_sub hl [0, 1, 2, 3, 4] rfl)
    · exact absurd c38 (by decide)
  | succ n ih =>
    intro i hi ls hl
    have hlt : i < 16 := by omega
    have hcl : (nI i).toNatClampNeg = i := nI_clamp (by omega)
    refine lv_iload hx hb dX0_sourcesThatGo_34 (lv_at hl 4 rfl) ?_
    refine lv_bipush (v := 16) hx hb dX0_sourcesThatGo_36 (by decide) ?_
    refine lv_icmp_ge (tgt := 86) hx hb dX0_sourcesThatGo_38 (by decide) (fun c38 => ?_) (fun c38 => ?_)
    · exact absurd c38 (nI_ge hlt (by decide))
    · refine lv_iload_n hx hb dX0_sourcesThatGo_41 rfl (lv_at hl 2 rfl) ?_
      refine lv_if_eq (tgt := 55) hx hb dX0_sourcesThatGo_42 (by decide) (fun c42 => ?_) (fun c42 => ?_)
      · have b42 := bI_z c42
        refine lv_aload_n hx hb dX0_sourcesThatGo_55 rfl (lv_at hl 0 rfl) ?_
        refine lv_aload_n hx hb dX0_sourcesThatGo_56 rfl (lv_at hl 0 rfl) ?_
        refine va_get (D := (dC, dI)) (ci := 0) (v := .ref a3) (C := RX0) (T := TX0) (N := 7) hx hb hts iwsX0_sourcesThatGo hown hK hP 0 rfl rfl 4 (by decide) (hts (.fieldLink RX0 16 "BranchTimes" "joinedTill" "[I") (by decide +kernel)) (fun _ h9 => h9) rfl dX0_sourcesThatGo_57 ?_
        refine lv_iload_n hx hb dX0_sourcesThatGo_60 rfl (lv_at hl 1 rfl) ?_
        refine lv_iload hx hb dX0_sourcesThatGo_61 (lv_at hl 4 rfl) ?_
        refine rd_S (As := [.int g, .int (nI i)]) (rest := [.ref a3, .ref h]) S (c_X0_branchPlace l g (nI i)) gX0_sourcesThatGo_X0_branchPlace rfl ⟨rfl, rfl⟩ hd_X0_branchPlace ⟨Nat.le_of_ble_eq_true rfl, Nat.le_of_ble_eq_true rfl⟩ rfl hl.1 rfl (Nat.le_of_ble_eq_true rfl) dX0_sourcesThatGo_63 hcs ?_
        refine va_iald (D := (dC, dI)) hx hb hK hP 3 0 rfl rfl (Pl_in hg (Br_src (xSrc_nI hlt))) dX0_sourcesThatGo_66 ?_
        refine rd_V (As := [.int (fJ (xPl g (nI i)).toNatClampNeg)]) (rest := []) (ci := 0) (qc := (RX0, TX0, 7)) S (c_X0_stands l dC dI h a1 a2 a3 a4 a5 cA me tm fN fM fJ fT fC (fJ (xPl g (nI i)).toNatClampNeg)) gX0_sourcesThatGo_X0_stands rfl ⟨rfl, rfl⟩ hd_X0_stands ⟨Nat.le_of_ble_eq_true rfl, Nat.le_of_ble_eq_true rfl⟩ hK hP rfl rfl rfl hl.1 rfl (Nat.le_of_ble_eq_true rfl) dX0_sourcesThatGo_67 hcs ?_
        refine lv_if_eq (tgt := 80) hx hb dX0_sourcesThatGo_70 (by decide) (fun c70 => ?_) (fun c70 => ?_)
        · have b70 := bI_z c70
          refine lv_iinc (v := nI (i + 1)) (lv' := [(4, .int (nI (i + 1))), (0, .ref h), (1, .int g), (2, .int (bI (xStar tm fJ g))), (3, .int (bitsI (xGoq tm fJ fT fC g) i))]) hx hb dX0_sourcesThatGo_80 hl (k := 4) rfl (nI_1 _) (by decide) rfl (fun ls hl => ?_)
          refine lv_goto (tgt := 34) hx hb dX0_sourcesThatGo_83 (by decide) ?_
          exact ih (i + 1) (by omega) ls (by rw [bitsI_f (q := xGoq tm fJ fT fC g) (k := i) (by simp [xGoq, b42, b70])]; exact lv_sub hl [1, 2, 3, 4, 0] rfl)
        · have b70 := bI_nz c70
          refine lv_iload_n hx hb dX0_sourcesThatGo_73 rfl (lv_at hl 3 rfl) ?_
          refine lv_iconst (v := 1) hx hb dX0_sourcesThatGo_74 (by decide) ?_
          refine lv_iload hx hb dX0_sourcesThatGo_75 (lv_at hl 4 rfl) ?_
          refine lv_ishl hx hb dX0_sourcesThatGo_77 ?_
          refine lv_ior hx hb dX0_sourcesThatGo_78 ?_
          refine lv_istore_n (lv' := [(3, .int ((bitsI (xGoq tm fJ fT fC g) i) ||| (((1 : Int32)) <<< ((nI i) &&& 31)))), (0, .ref h), (1, .int g), (2, .int (bI (xStar tm fJ g))), (4, .int (nI i))]) hx hb dX0_sourcesThatGo_79 rfl hl (by decide) rfl (fun ls hl => ?_)
          refine lv_iinc (v := nI (i + 1)) (lv' := [(4, .int (nI (i + 1))), (3, .int ((bitsI (xGoq tm fJ fT fC g) i) ||| (((1 : Int32)) <<< ((nI i) &&& 31)))), (0, .ref h), (1, .int g), (2, .int (bI (xStar tm fJ g)))]) hx hb dX0_sourcesThatGo_80 hl (k := 4) rfl (nI_1 _) (by decide) rfl (fun ls hl => ?_)
          refine lv_goto (tgt := 34) hx hb dX0_sourcesThatGo_83 (by decide) ?_
          exact ih (i + 1) (by omega) ls (by rw [bitsI_t (q := xGoq tm fJ fT fC g) (k := i) (by simp [xGoq, b42, b70])]; exact lv_sub hl [2, 3, 4, 1, 0] rfl)
      · have b42 := bI_nz c42
        refine lv_aload_n hx hb dX0_sourcesThatGo_45 rfl (lv_at hl 0 rfl) ?_
        refine lv_iload_n hx hb dX0_sourcesThatGo_46 rfl (lv_at hl 1 rfl) ?_
        refine lv_iload hx hb dX0_sourcesThatGo_47 (lv_at hl 4 rfl) ?_
        refine rd_V (As := [.int g, .int (nI i)]) (rest := []) (ci := 0) (qc := (RX0, TX0, 7)) S (c_X0_isCutOff l dC dI h a1 a2 a3 a4 a5 cA me tm fN fM fJ fT fC g (nI i) hg (xSrc_nI hlt)) gX0_sourcesThatGo_X0_isCutOff rfl ⟨rfl, rfl⟩ hd_X0_isCutOff ⟨Nat.le_of_ble_eq_true rfl, Nat.le_of_ble_eq_true rfl⟩ hK hP rfl rfl rfl hl.1 rfl (Nat.le_of_ble_eq_true rfl) dX0_sourcesThatGo_49 hcs ?_
        refine lv_if_eq (tgt := 73) hx hb dX0_sourcesThatGo_52 (by decide) (fun c52 => ?_) (fun c52 => ?_)
        · have b52 := bI_z c52
          refine lv_iload_n hx hb dX0_sourcesThatGo_73 rfl (lv_at hl 3 rfl) ?_
          refine lv_iconst (v := 1) hx hb dX0_sourcesThatGo_74 (by decide) ?_
          refine lv_iload hx hb dX0_sourcesThatGo_75 (lv_at hl 4 rfl) ?_
          refine lv_ishl hx hb dX0_sourcesThatGo_77 ?_
          refine lv_ior hx hb dX0_sourcesThatGo_78 ?_
          refine lv_istore_n (lv' := [(3, .int ((bitsI (xGoq tm fJ fT fC g) i) ||| (((1 : Int32)) <<< ((nI i) &&& 31)))), (0, .ref h), (1, .int g), (2, .int (bI (xStar tm fJ g))), (4, .int (nI i))]) hx hb dX0_sourcesThatGo_79 rfl hl (by decide) rfl (fun ls hl => ?_)
          refine lv_iinc (v := nI (i + 1)) (lv' := [(4, .int (nI (i + 1))), (3, .int ((bitsI (xGoq tm fJ fT fC g) i) ||| (((1 : Int32)) <<< ((nI i) &&& 31)))), (0, .ref h), (1, .int g), (2, .int (bI (xStar tm fJ g)))]) hx hb dX0_sourcesThatGo_80 hl (k := 4) rfl (nI_1 _) (by decide) rfl (fun ls hl => ?_)
          refine lv_goto (tgt := 34) hx hb dX0_sourcesThatGo_83 (by decide) ?_
          exact ih (i + 1) (by omega) ls (by rw [bitsI_t (q := xGoq tm fJ fT fC g) (k := i) (by simp [xGoq, b42, b52])]; exact lv_sub hl [2, 3, 4, 1, 0] rfl)
        · have b52 := bI_nz c52
          refine lv_aload_n hx hb dX0_sourcesThatGo_55 rfl (lv_at hl 0 rfl) ?_
          refine lv_aload_n hx hb dX0_sourcesThatGo_56 rfl (lv_at hl 0 rfl) ?_
          refine va_get (D := (dC, dI)) (ci := 0) (v := .ref a3) (C := RX0) (T := TX0) (N := 7) hx hb hts iwsX0_sourcesThatGo hown hK hP 0 rfl rfl 4 (by decide) (hts (.fieldLink RX0 16 "BranchTimes" "joinedTill" "[I") (by decide +kernel)) (fun _ h9 => h9) rfl dX0_sourcesThatGo_57 ?_
          refine lv_iload_n hx hb dX0_sourcesThatGo_60 rfl (lv_at hl 1 rfl) ?_
          refine lv_iload hx hb dX0_sourcesThatGo_61 (lv_at hl 4 rfl) ?_
          refine rd_S (As := [.int g, .int (nI i)]) (rest := [.ref a3, .ref h]) S (c_X0_branchPlace l g (nI i)) gX0_sourcesThatGo_X0_branchPlace rfl ⟨rfl, rfl⟩ hd_X0_branchPlace ⟨Nat.le_of_ble_eq_true rfl, Nat.le_of_ble_eq_true rfl⟩ rfl hl.1 rfl (Nat.le_of_ble_eq_true rfl) dX0_sourcesThatGo_63 hcs ?_
          refine va_iald (D := (dC, dI)) hx hb hK hP 3 0 rfl rfl (Pl_in hg (Br_src (xSrc_nI hlt))) dX0_sourcesThatGo_66 ?_
          refine rd_V (As := [.int (fJ (xPl g (nI i)).toNatClampNeg)]) (rest := []) (ci := 0) (qc := (RX0, TX0, 7)) S (c_X0_stands l dC dI h a1 a2 a3 a4 a5 cA me tm fN fM fJ fT fC (fJ (xPl g (nI i)).toNatClampNeg)) gX0_sourcesThatGo_X0_stands rfl ⟨rfl, rfl⟩ hd_X0_stands ⟨Nat.le_of_ble_eq_true rfl, Nat.le_of_ble_eq_true rfl⟩ hK hP rfl rfl rfl hl.1 rfl (Nat.le_of_ble_eq_true rfl) dX0_sourcesThatGo_67 hcs ?_
          refine lv_if_eq (tgt := 80) hx hb dX0_sourcesThatGo_70 (by decide) (fun c70 => ?_) (fun c70 => ?_)
          · have b70 := bI_z c70
            refine lv_iinc (v := nI (i + 1)) (lv' := [(4, .int (nI (i + 1))), (0, .ref h), (1, .int g), (2, .int (bI (xStar tm fJ g))), (3, .int (bitsI (xGoq tm fJ fT fC g) i))]) hx hb dX0_sourcesThatGo_80 hl (k := 4) rfl (nI_1 _) (by decide) rfl (fun ls hl => ?_)
            refine lv_goto (tgt := 34) hx hb dX0_sourcesThatGo_83 (by decide) ?_
            exact ih (i + 1) (by omega) ls (by rw [bitsI_f (q := xGoq tm fJ fT fC g) (k := i) (by simp [xGoq, b42, b52, b70])]; exact lv_sub hl [1, 2, 3, 4, 0] rfl)
          · have b70 := bI_nz c70
            refine lv_iload_n hx hb dX0_sourcesThatGo_73 rfl (lv_at hl 3 rfl) ?_
            refine lv_iconst (v := 1) hx hb dX0_sourcesThatGo_74 (by decide) ?_
            refine lv_iload hx hb dX0_sourcesThatGo_75 (lv_at hl 4 rfl) ?_
            refine lv_ishl hx hb dX0_sourcesThatGo_77 ?_
            refine lv_ior hx hb dX0_sourcesThatGo_78 ?_
            refine lv_istore_n (lv' := [(3, .int ((bitsI (xGoq tm fJ fT fC g) i) ||| (((1 : Int32)) <<< ((nI i) &&& 31)))), (0, .ref h), (1, .int g), (2, .int (bI (xStar tm fJ g))), (4, .int (nI i))]) hx hb dX0_sourcesThatGo_79 rfl hl (by decide) rfl (fun ls hl => ?_)
            refine lv_iinc (v := nI (i + 1)) (lv' := [(4, .int (nI (i + 1))), (3, .int ((bitsI (xGoq tm fJ fT fC g) i) ||| (((1 : Int32)) <<< ((nI i) &&& 31)))), (0, .ref h), (1, .int g), (2, .int (bI (xStar tm fJ g)))]) hx hb dX0_sourcesThatGo_80 hl (k := 4) rfl (nI_1 _) (by decide) rfl (fun ls hl => ?_)
            refine lv_goto (tgt := 34) hx hb dX0_sourcesThatGo_83 (by decide) ?_
            exact ih (i + 1) (by omega) ls (by rw [bitsI_t (q := xGoq tm fJ fT fC g) (k := i) (by simp [xGoq, b42, b52, b70])]; exact lv_sub hl [2, 3, 4, 1, 0] rfl)
set_option maxHeartbeats 4000000 in
set_option maxRecDepth 100000 in
theorem c_X0_sourcesThatGo (l : Launch) (dC : Nat → ClassId) (dI : Nat → Nat → Nat) (h a1 a2 a3 a4 a5 : Nat) (cA : ClassId) (me tm : Int32) (fN fM fJ fT fC : Nat → Int32) (g : Int32) (hg : xG g = true) : Met l yX0_sourcesThatGo wsX0_sourcesThatGo ({ frames := 3, cells := 0, slots := 0, locals := 63 }) (PR [.ref h, .int g] dC dI cA (wX h a1 a2 a3 a4 a5 cA me tm fN fM fJ fT fC)) (QcRead (xGo me tm fN fM fJ fT fC g)) 0 0 (fun _ => False) := by
  refine Met.ofW (cc := cX0_sourcesThatGo) (maxL := 5) (ret := some .int) (by decide) rfl ?_
  intro p e s m args below meth c s₁ B hml hv
  obtain ⟨rfl, hP, hK⟩ := hv
  have hx := B.exec
  have hb := B.bytes
  have hr := B.returns
  have hts := atoms_spec (ws := wsX0_sourcesThatGo) B.pre
  have hown : s.vm.findClass RX0 = some m.cls := findClass_of_methodNamed B.named
  have hlocks := B.notSynchronized
  have S : CallFix p m c cX0_sourcesThatGo 5 s ([.ref h, .int g] : List Value).toArray wsX0_sourcesThatGo RX0 := ⟨hx, hb, hml, hown, hts⟩
  have hl := lv_entry ([.ref h, .int g]) (n := 5) (Nat.le_of_ble_eq_true rfl)
  rw [lg_entry_eq]
  generalize (lg_sl ([.ref h, .int g]) ++ List.replicate (5 - (lg_sl ([.ref h, .int g])).length) Slot.unset).toArray = ls at hl ⊢
  have hl : lv_has ls 5 [(0, .ref h), (1, .int g)] := hl
  refine lv_aload_n hx hb dX0_sourcesThatGo_0 rfl (lv_at hl 0 rfl) ?_
  refine lv_aload_n hx hb dX0_sourcesThatGo_1 rfl (lv_at hl 0 rfl) ?_
  refine va_get (D := (dC, dI)) (ci := 0) (v := .ref a2) (C := RX0) (T := TX0) (N := 7) hx hb hts iwsX0_sourcesThatGo hown hK hP 0 rfl rfl 3 (by decide) (hts (.fieldLink RX0 13 "BranchTimes" "membersTill" "[I") (by decide +kernel)) (fun _ h9 => h9) rfl dX0_sourcesThatGo_2 ?_
  refine lv_iload_n hx hb dX0_sourcesThatGo_5 rfl (lv_at hl 1 rfl) ?_
  refine va_iald (D := (dC, dI)) hx hb hK hP 2 0 rfl rfl (G_in hg) dX0_sourcesThatGo_6 ?_
  refine rd_V (As := [.int (fM g.toNatClampNeg)]) (rest := []) (ci := 0) (qc := (RX0, TX0, 7)) S (c_X0_stands l dC dI h a1 a2 a3 a4 a5 cA me tm fN fM fJ fT fC (fM g.toNatClampNeg)) gX0_sourcesThatGo_X0_stands rfl ⟨rfl, rfl⟩ hd_X0_stands ⟨Nat.le_of_ble_eq_true rfl, Nat.le_of_ble_eq_true rfl⟩ hK hP rfl rfl rfl hl.1 rfl (Nat.le_of_ble_eq_true rfl) dX0_sourcesThatGo_7 ⟨Nat.le_of_ble_eq_true rfl, Nat.le_of_ble_eq_true rfl⟩ ?_
  refine lv_if_eq (tgt := 23) hx hb dX0_sourcesThatGo_10 (by decide) (fun c10 => ?_) (fun c10 => ?_)
  · have b10 := bI_z c10
    refine lv_aload_n hx hb dX0_sourcesThatGo_23 rfl (lv_at hl 0 rfl) ?_
    refine lv_iload_n hx hb dX0_sourcesThatGo_24 rfl (lv_at hl 1 rfl) ?_
    refine rd_V (As := [.int g]) (rest := []) (ci := 0) (qc := (RX0, TX0, 7)) S (c_X0_isJoinedForStar l dC dI h a1 a2 a3 a4 a5 cA me tm fN fM fJ fT fC g hg) gX0_sourcesThatGo_X0_isJoinedForStar rfl ⟨rfl, rfl⟩ hd_X0_isJoinedForStar ⟨Nat.le_of_ble_eq_true rfl, Nat.le_of_ble_eq_true rfl⟩ hK hP rfl rfl rfl hl.1 rfl (Nat.le_of_ble_eq_true rfl) dX0_sourcesThatGo_25 ⟨Nat.le_of_ble_eq_true rfl, Nat.le_of_ble_eq_true rfl⟩ ?_
    refine lv_istore_n (lv' := [(2, .int (bI (xStar tm fJ g))), (0, .ref h), (1, .int g)]) hx hb dX0_sourcesThatGo_28 rfl hl (by decide) rfl (fun ls hl => ?_)
    refine lv_iconst (v := 0) hx hb dX0_sourcesThatGo_29 (by decide) ?_
    refine lv_istore_n (lv' := [(3, .int ((0 : Int32))), (2, .int (bI (xStar tm fJ g))), (0, .ref h), (1, .int g)]) hx hb dX0_sourcesThatGo_30 rfl hl (by decide) rfl (fun ls hl => ?_)
    refine lv_iconst (v := 0) hx hb dX0_sourcesThatGo_31 (by decide) ?_
    refine lv_istore (lv' := [(4, .int ((0 : Int32))), (3, .int ((0 : Int32))), (2, .int (bI (xStar tm fJ g))), (0, .ref h), (1, .int g)]) hx hb dX0_sourcesThatGo_32 hl (by decide) rfl (fun ls hl => ?_)
    refine lp_X0_sourcesThatGo_34 l dC dI h a1 a2 a3 a4 a5 cA me tm fN fM fJ fT fC g hg S hK hP ⟨Nat.le_of_ble_eq_true rfl, Nat.le_of_ble_eq_true rfl⟩ (fun ls hl => ?_) 16 0 rfl ls (lv_sub hl [3, 4, 2, 1, 0] rfl)
    refine lv_iload_n hx hb dX0_sourcesThatGo_86 rfl (lv_at hl 3 rfl) ?_
    have er : bitsI (xGoq tm fJ fT fC g) 16 = xGo me tm fN fM fJ fT fC g := by simp [xGo, b10]
    exact W.iret (v := bitsI (xGoq tm fJ fT fC g) 16) hx hb hr (fun t ht hW => ⟨congrArg (fun z => Outcome.returned (some (Value.int z))) er, ht⟩) (fun q h => absurd h List.not_mem_nil) dX0_sourcesThatGo_87
  · have b10 := bI_nz c10
    refine lv_aload_n hx hb dX0_sourcesThatGo_13 rfl (lv_at hl 0 rfl) ?_
    refine rd_V (As := []) (rest := []) (ci := 0) (qc := (RX0, TX0, 7)) S (c_X0_isFirst l dC dI h a1 a2 a3 a4 a5 cA me tm fN fM fJ fT fC) gX0_sourcesThatGo_X0_isFirst rfl ⟨rfl, rfl⟩ hd_X0_isFirst ⟨Nat.le_of_ble_eq_true rfl, Nat.le_of_ble_eq_true rfl⟩ hK hP rfl rfl rfl hl.1 rfl (Nat.le_of_ble_eq_true rfl) dX0_sourcesThatGo_14 ⟨Nat.le_of_ble_eq_true rfl, Nat.le_of_ble_eq_true rfl⟩ ?_
    refine lv_if_eq (tgt := 23) hx hb dX0_sourcesThatGo_17 (by decide) (fun c17 => ?_) (fun c17 => ?_)
    · have b17 := bI_z c17
      refine lv_aload_n hx hb dX0_sourcesThatGo_23 rfl (lv_at hl 0 rfl) ?_
      refine lv_iload_n hx hb dX0_sourcesThatGo_24 rfl (lv_at hl 1 rfl) ?_
      refine rd_V (As := [.int g]) (rest := []) (ci := 0) (qc := (RX0, TX0, 7)) S (c_X0_isJoinedForStar l dC dI h a1 a2 a3 a4 a5 cA me tm fN fM fJ fT fC g hg) gX0_sourcesThatGo_X0_isJoinedForStar rfl ⟨rfl, rfl⟩ hd_X0_isJoinedForStar ⟨Nat.le_of_ble_eq_true rfl, Nat.le_of_ble_eq_true rfl⟩ hK hP rfl rfl rfl hl.1 rfl (Nat.le_of_ble_eq_true rfl) dX0_sourcesThatGo_25 ⟨Nat.le_of_ble_eq_true rfl, Nat.le_of_ble_eq_true rfl⟩ ?_
      refine lv_istore_n (lv' := [(2, .int (bI (xStar tm fJ g))), (0, .ref h), (1, .int g)]) hx hb dX0_sourcesThatGo_28 rfl hl (by decide) rfl (fun ls hl => ?_)
      refine lv_iconst (v := 0) hx hb dX0_sourcesThatGo_29 (by decide) ?_
      refine lv_istore_n (lv' := [(3, .int ((0 : Int32))), (2, .int (bI (xStar tm fJ g))), (0, .ref h), (1, .int g)]) hx hb dX0_sourcesThatGo_30 rfl hl (by decide) rfl (fun ls hl => ?_)
      refine lv_iconst (v := 0) hx hb dX0_sourcesThatGo_31 (by decide) ?_
      refine lv_istore (lv' := [(4, .int ((0 : Int32))), (3, .int ((0 : Int32))), (2, .int (bI (xStar tm fJ g))), (0, .ref h), (1, .int g)]) hx hb dX0_sourcesThatGo_32 hl (by decide) rfl (fun ls hl => ?_)
      refine lp_X0_sourcesThatGo_34 l dC dI h a1 a2 a3 a4 a5 cA me tm fN fM fJ fT fC g hg S hK hP ⟨Nat.le_of_ble_eq_true rfl, Nat.le_of_ble_eq_true rfl⟩ (fun ls hl => ?_) 16 0 rfl ls (lv_sub hl [3, 4, 2, 1, 0] rfl)
      refine lv_iload_n hx hb dX0_sourcesThatGo_86 rfl (lv_at hl 3 rfl) ?_
      have er : bitsI (xGoq tm fJ fT fC g) 16 = xGo me tm fN fM fJ fT fC g := by simp [xGo, b10, b17]
      exact W.iret (v := bitsI (xGoq tm fJ fT fC g) 16) hx hb hr (fun t ht hW => ⟨congrArg (fun z => Outcome.returned (some (Value.int z))) er, ht⟩) (fun q h => absurd h List.not_mem_nil) dX0_sourcesThatGo_87
    · have b17 := bI_nz c17
      refine lv_ldc (v := 65535) hx hb hown (hts (.constant RX0 56 (65535)) (by decide +kernel)) dX0_sourcesThatGo_20 ?_
      have er : (65535 : Int32) = xGo me tm fN fM fJ fT fC g := by simp [xGo, b10, b17]
      exact W.iret (v := (65535 : Int32)) hx hb hr (fun t ht hW => ⟨congrArg (fun z => Outcome.returned (some (Value.int z))) er, ht⟩) (fun q h => absurd h List.not_mem_nil) dX0_sourcesThatGo_22
theorem hd_X0_sourcesThatGo : yX0_sourcesThatGo.cls = RX0 ∧ yX0_sourcesThatGo.cls ≠ "java/lang/invoke/MethodHandle" ∧ yX0_sourcesThatGo.cls ≠ "java/lang/invoke/VarHandle" ∧ (parseMethodDescriptor yX0_sourcesThatGo.desc).map (fun d => d.parameters.length) = some 1 := by decide +kernel

theorem iwsX0_groupsThatGo : ∀ w ∈ u_ws RX0 TX0 7, w ∈ wsX0_groupsThatGo := fun _ h => List.mem_cons_of_mem _ (List.mem_append_right _ h)
set_option maxHeartbeats 4000000 in
set_option maxRecDepth 100000 in
theorem lp_X0_groupsThatGo_4 {p : Program} {e : Env} {s : State} {m : MethodId} {args : Array Value} {below : List Frame} {meth : Method} {c : Code} {cells slots : Nat} {Q : State → Prop} {H : Heap} {locs : List Loc} (l : Launch) (dC : Nat → ClassId) (dI : Nat → Nat → Nat) (h a1 a2 a3 a4 a5 : Nat) (cA : ClassId) (me tm : Int32) (fN fM fJ fT fC : Nat → Int32) (S : CallFix p m c cX0_groupsThatGo 3 s args wsX0_groupsThatGo RX0) (hK : va_K (dC, dI) vwCl [(cA, .int)] s) (hP : va_P (dC, dI) vwCl (wX h a1 a2 a3 a4 a5 cA me tm fN fM fJ fT fC) H) (hcs : cells + 0 ≤ 0 ∧ slots + 0 ≤ 0) (k : ∀ (ls : Array Slot), lv_has ls 3 [(0, .ref h), (1, .int (bitsI (xGrq me tm fN fM fJ fT fC) 8)), (2, .int (nI 8))] → W p l e ({ frames := 4, cells := 0, slots := 0, locals := 87 }) s m args below meth c H locs cells slots Q (F0 m 30 ls [])) : ∀ (n i : Nat), i + n = 8 → ∀ (ls : Array Slot), lv_has ls 3 [(0, .ref h), (1, .int (bitsI (xGrq me tm fN fM fJ fT fC) i)), (2, .int (nI i))] → W p l e ({ frames := 4, cells := 0, slots := 0, locals := 87 }) s m args below meth c H locs cells slots Q (F0 m 4 ls []) := by
  obtain ⟨hx, hb, hml, hown, hts⟩ := id S
  intro n
  induction n with
  | zero =>
    intro i hi ls hl
    obtain rfl : i = 8 := by omega
    refine lv_iload_n hx hb dX0_groupsThatGo_4 rfl (lv_at hl 2 rfl) ?_
    refine lv_bipush (v := 8) hx hb dX0_groupsThatGo_5 (by decide) ?_
    refine lv_icmp_ge (tgt := 30) hx hb dX0_groupsThatGo_7 (by decide) (fun c7 => ?_) (fun c7 => ?_)
    · exact k ls (lv_sub hl [0, 1, 2] rfl)
    · exact absurd c7 (by decide)
  | succ n ih =>
    intro i hi ls hl
    have hlt : i < 8 := by omega
    have hcl : (nI i).toNatClampNeg = i := nI_clamp (by omega)
    refine lv_iload_n hx hb dX0_groupsThatGo_4 rfl (lv_at hl 2 rfl) ?_
    refine lv_bipush (v := 8) hx hb dX0_groupsThatGo_5 (by decide) ?_
    refine lv_icmp_ge (tgt := 30) hx hb dX0_groupsThatGo_7 (by decide) (fun c7 => ?_) (fun c7 => ?_)
    · exact absurd c7 (nI_ge hlt (by decide))
    · refine lv_aload_n hx hb dX0_groupsThatGo_10 rfl (lv_at hl 0 rfl) ?_
      refine lv_iload_n hx hb dX0_groupsThatGo_11 rfl (lv_at hl 2 rfl) ?_
      refine rd_V (As := [.int (nI i)]) (rest := []) (ci := 0) (qc := (RX0, TX0, 7)) S (c_X0_sourcesThatGo l dC dI h a1 a2 a3 a4 a5 cA me tm fN fM fJ fT fC (nI i) (xG_nI hlt)) gX0_groupsThatGo_X0_sourcesThatGo rfl ⟨rfl, rfl⟩ hd_X0_sourcesThatGo ⟨Nat.le_of_ble_eq_true rfl, Nat.le_of_ble_eq_true rfl⟩ hK hP rfl rfl rfl hl.1 rfl (Nat.le_of_ble_eq_true rfl) dX0_groupsThatGo_12 hcs ?_
      refine lv_if_eq (tgt := 24) hx hb dX0_groupsThatGo_15 (by decide) (fun c15 => ?_) (fun c15 => ?_)
      · refine lv_iinc (v := nI (i + 1)) (lv' := [(2, .int (nI (i + 1))), (0, .ref h), (1, .int (bitsI (xGrq me tm fN fM fJ fT fC) i))]) hx hb dX0_groupsThatGo_24 hl (k := 2) rfl (nI_1 _) (by decide) rfl (fun ls hl => ?_)
        refine lv_goto (tgt := 4) hx hb dX0_groupsThatGo_27 (by decide) ?_
        exact ih (i + 1) (by omega) ls (by rw [bitsI_f (q := xGrq me tm fN fM fJ fT fC) (k := i) (by simp [xGrq, c15])]; exact lv_sub hl [1, 2, 0] rfl)
      · refine lv_iload_n hx hb dX0_groupsThatGo_18 rfl (lv_at hl 1 rfl) ?_
        refine lv_iconst (v := 1) hx hb dX0_groupsThatGo_19 (by decide) ?_
        refine lv_iload_n hx hb dX0_groupsThatGo_20 rfl (lv_at hl 2 rfl) ?_
        refine lv_ishl hx hb dX0_groupsThatGo_21 ?_
        refine lv_ior hx hb dX0_groupsThatGo_22 ?_
        refine lv_istore_n (lv' := [(1, .int ((bitsI (xGrq me tm fN fM fJ fT fC) i) ||| (((1 : Int32)) <<< ((nI i) &&& 31)))), (0, .ref h), (2, .int (nI i))]) hx hb dX0_groupsThatGo_23 rfl hl (by decide) rfl (fun ls hl => ?_)
        refine lv_iinc (v := nI (i + 1)) (lv' := [(2, .int (nI (i + 1))), (1, .int ((bitsI (xGrq me tm fN fM fJ fT fC) i) ||| (((1 : Int32)) <<< ((nI i) &&& 31)))), (0, .ref h)]) hx hb dX0_groupsThatGo_24 hl (k := 2) rfl (nI_1 _) (by decide) rfl (fun ls hl => ?_)
        refine lv_goto (tgt := 4) hx hb dX0_groupsThatGo_27 (by decide) ?_
        exact ih (i + 1) (by omega) ls (by rw [bitsI_t (q := xGrq me tm fN fM fJ fT fC) (k := i) (by simp [xGrq, c15])]; exact lv_sub hl [2, 1, 0] rfl)
set_option maxHeartbeats 4000000 in
set_option maxRecDepth 100000 in
theorem c_X0_groupsThatGo (l : Launch) (dC : Nat → ClassId) (dI : Nat → Nat → Nat) (h a1 a2 a3 a4 a5 : Nat) (cA : ClassId) (me tm : Int32) (fN fM fJ fT fC : Nat → Int32) : Met l yX0_groupsThatGo wsX0_groupsThatGo ({ frames := 4, cells := 0, slots := 0, locals := 87 }) (PR [.ref h] dC dI cA (wX h a1 a2 a3 a4 a5 cA me tm fN fM fJ fT fC)) (QcRead (xGr me tm fN fM fJ fT fC)) 0 0 (fun _ => False) := by
  refine Met.ofW (cc := cX0_groupsThatGo) (maxL := 3) (ret := some .int) (by decide) rfl ?_
  intro p e s m args below meth c s₁ B hml hv
  obtain ⟨rfl, hP, hK⟩ := hv
  have hx := B.exec
  have hb := B.bytes
  have hr := B.returns
  have hts := atoms_spec (ws := wsX0_groupsThatGo) B.pre
  have hown : s.vm.findClass RX0 = some m.cls := findClass_of_methodNamed B.named
  have hlocks := B.notSynchronized
  have S : CallFix p m c cX0_groupsThatGo 3 s ([.ref h] : List Value).toArray wsX0_groupsThatGo RX0 := ⟨hx, hb, hml, hown, hts⟩
  have hl := lv_entry ([.ref h]) (n := 3) (Nat.le_of_ble_eq_true rfl)
  rw [lg_entry_eq]
  generalize (lg_sl ([.ref h]) ++ List.replicate (3 - (lg_sl ([.ref h])).length) Slot.unset).toArray = ls at hl ⊢
  have hl : lv_has ls 3 [(0, .ref h)] := hl
  refine lv_iconst (v := 0) hx hb dX0_groupsThatGo_0 (by decide) ?_
  refine lv_istore_n (lv' := [(1, .int ((0 : Int32))), (0, .ref h)]) hx hb dX0_groupsThatGo_1 rfl hl (by decide) rfl (fun ls hl => ?_)
  refine lv_iconst (v := 0) hx hb dX0_groupsThatGo_2 (by decide) ?_
  refine lv_istore_n (lv' := [(2, .int ((0 : Int32))), (1, .int ((0 : Int32))), (0, .ref h)]) hx hb dX0_groupsThatGo_3 rfl hl (by decide) rfl (fun ls hl => ?_)
  refine lp_X0_groupsThatGo_4 l dC dI h a1 a2 a3 a4 a5 cA me tm fN fM fJ fT fC S hK hP ⟨Nat.le_of_ble_eq_true rfl, Nat.le_of_ble_eq_true rfl⟩ (fun ls hl => ?_) 8 0 rfl ls (lv_sub hl [2, 1, 0] rfl)
  refine lv_iload_n hx hb dX0_groupsThatGo_30 rfl (lv_at hl 1 rfl) ?_
  exact W.iret (v := bitsI (xGrq me tm fN fM fJ fT fC) 8) hx hb hr (fun t ht hW => ⟨rfl, ht⟩) (fun q h => absurd h List.not_mem_nil) dX0_groupsThatGo_31
theorem hd_X0_groupsThatGo : yX0_groupsThatGo.cls = RX0 ∧ yX0_groupsThatGo.cls ≠ "java/lang/invoke/MethodHandle" ∧ yX0_groupsThatGo.cls ≠ "java/lang/invoke/VarHandle" ∧ (parseMethodDescriptor yX0_groupsThatGo.desc).map (fun d => d.parameters.length) = some 0 := by decide +kernel

theorem iwsX0_countJoined : ∀ w ∈ u_ws RX0 TX0 7, w ∈ wsX0_countJoined := fun _ h => List.mem_cons_of_mem _ (List.mem_append_right _ h)
set_option maxHeartbeats 4000000 in
set_option maxRecDepth 100000 in
theorem lp_X0_countJoined_4 {p : Program} {e : Env} {s : State} {m : MethodId} {args : Array Value} {below : List Frame} {meth : Method} {c : Code} {cells slots : Nat} {Q : State → Prop} {H : Heap} {locs : List Loc} (l : Launch) (dC : Nat → ClassId) (dI : Nat → Nat → Nat) (h a1 a2 a3 a4 a5 : Nat) (cA : ClassId) (me tm : Int32) (fN fM fJ fT fC : Nat → Int32) (S : CallFix p m c cX0_countJoined 3 s args wsX0_countJoined RX0) (hK : va_K (dC, dI) vwCl [(cA, .int)] s) (hP : va_P (dC, dI) vwCl (wX h a1 a2 a3 a4 a5 cA me tm fN fM fJ fT fC) H) (hcs : cells + 0 ≤ 0 ∧ slots + 0 ≤ 0) (k : ∀ (ls : Array Slot), lv_has ls 3 [(0, .ref h), (1, .int (cntI (xNbq tm fJ) 136)), (2, .int (nI 136))] → W p l e ({ frames := 1, cells := 0, slots := 0, locals := 21 }) s m args below meth c H locs cells slots Q (F0 m 33 ls [])) : ∀ (n i : Nat), i + n = 136 → ∀ (ls : Array Slot), lv_has ls 3 [(0, .ref h), (1, .int (cntI (xNbq tm fJ) i)), (2, .int (nI i))] → W p l e ({ frames := 1, cells := 0, slots := 0, locals := 21 }) s m args below meth c H locs cells slots Q (F0 m 4 ls []) := by
  obtain ⟨hx, hb, hml, hown, hts⟩ := id S
  intro n
  induction n with
  | zero =>
    intro i hi ls hl
    obtain rfl : i = 136 := by omega
    refine lv_iload_n hx hb dX0_countJoined_4 rfl (lv_at hl 2 rfl) ?_
    refine lv_sipush (v := 136) hx hb dX0_countJoined_5 (by decide) ?_
    refine lv_icmp_ge (tgt := 33) hx hb dX0_countJoined_8 (by decide) (fun c8 => ?_) (fun c8 => ?_)
    · exact k ls (lv_sub hl [0, 1, 2] rfl)
    · exact absurd c8 (by decide)
  | succ n ih =>
    intro i hi ls hl
    have hlt : i < 136 := by omega
    have hcl : (nI i).toNatClampNeg = i := nI_clamp (by omega)
    refine lv_iload_n hx hb dX0_countJoined_4 rfl (lv_at hl 2 rfl) ?_
    refine lv_sipush (v := 136) hx hb dX0_countJoined_5 (by decide) ?_
    refine lv_icmp_ge (tgt := 33) hx hb dX0_countJoined_8 (by decide) (fun c8 => ?_) (fun c8 => ?_)
    · exact absurd c8 (nI_ge hlt (by decide))
    · refine lv_aload_n hx hb dX0_countJoined_11 rfl (lv_at hl 0 rfl) ?_
      refine lv_aload_n hx hb dX0_countJoined_12 rfl (lv_at hl 0 rfl) ?_
      refine va_get (D := (dC, dI)) (ci := 0) (v := .ref a3) (C := RX0) (T := TX0) (N := 7) hx hb hts iwsX0_countJoined hown hK hP 0 rfl rfl 4 (by decide) (hts (.fieldLink RX0 16 "BranchTimes" "joinedTill" "[I") (by decide +kernel)) (fun _ h9 => h9) rfl dX0_countJoined_13 ?_
      refine lv_iload_n hx hb dX0_countJoined_16 rfl (lv_at hl 2 rfl) ?_
      refine va_iald (D := (dC, dI)) hx hb hK hP 3 0 rfl rfl (vp_in_nI hlt (by decide)) dX0_countJoined_17 ?_
      refine lv_top (x' := fJ i) (congrArg fJ hcl) ?_
      refine rd_V (As := [.int (fJ i)]) (rest := []) (ci := 0) (qc := (RX0, TX0, 7)) S (c_X0_stands l dC dI h a1 a2 a3 a4 a5 cA me tm fN fM fJ fT fC (fJ i)) gX0_countJoined_X0_stands rfl ⟨rfl, rfl⟩ hd_X0_stands ⟨Nat.le_of_ble_eq_true rfl, Nat.le_of_ble_eq_true rfl⟩ hK hP rfl rfl rfl hl.1 rfl (Nat.le_of_ble_eq_true rfl) dX0_countJoined_18 hcs ?_
      refine lv_if_eq (tgt := 27) hx hb dX0_countJoined_21 (by decide) (fun c21 => ?_) (fun c21 => ?_)
      · have b21 := bI_z c21
        refine lv_iinc (v := nI (i + 1)) (lv' := [(2, .int (nI (i + 1))), (0, .ref h), (1, .int (cntI (xNbq tm fJ) i))]) hx hb dX0_countJoined_27 hl (k := 2) rfl (nI_1 _) (by decide) rfl (fun ls hl => ?_)
        refine lv_goto (tgt := 4) hx hb dX0_countJoined_30 (by decide) ?_
        exact ih (i + 1) (by omega) ls (by rw [cntI_f (q := xNbq tm fJ) (k := i) b21]; exact lv_sub hl [1, 2, 0] rfl)
      · have b21 := bI_nz c21
        refine lv_iinc (v := cntI (xNbq tm fJ) i + 1) (lv' := [(1, .int (cntI (xNbq tm fJ) i + 1)), (0, .ref h), (2, .int (nI i))]) hx hb dX0_countJoined_24 hl (k := 1) rfl (rfl) (by decide) rfl (fun ls hl => ?_)
        refine lv_iinc (v := nI (i + 1)) (lv' := [(2, .int (nI (i + 1))), (1, .int (cntI (xNbq tm fJ) i + 1)), (0, .ref h)]) hx hb dX0_countJoined_27 hl (k := 2) rfl (nI_1 _) (by decide) rfl (fun ls hl => ?_)
        refine lv_goto (tgt := 4) hx hb dX0_countJoined_30 (by decide) ?_
        exact ih (i + 1) (by omega) ls (by rw [cntI_t (q := xNbq tm fJ) (k := i) b21]; exact lv_sub hl [2, 1, 0] rfl)
set_option maxHeartbeats 4000000 in
set_option maxRecDepth 100000 in
theorem c_X0_countJoined (l : Launch) (dC : Nat → ClassId) (dI : Nat → Nat → Nat) (h a1 a2 a3 a4 a5 : Nat) (cA : ClassId) (me tm : Int32) (fN fM fJ fT fC : Nat → Int32) : Met l yX0_countJoined wsX0_countJoined ({ frames := 1, cells := 0, slots := 0, locals := 21 }) (PR [.ref h] dC dI cA (wX h a1 a2 a3 a4 a5 cA me tm fN fM fJ fT fC)) (QcRead (xCnt tm fJ)) 0 0 (fun _ => False) := by
  refine Met.ofW (cc := cX0_countJoined) (maxL := 3) (ret := some .int) (by decide) rfl ?_
  intro p e s m args below meth c s₁ B hml hv
  obtain ⟨rfl, hP, hK⟩ := hv
  have hx := B.exec
  have hb := B.bytes
  have hr := B.returns
  have hts := atoms_spec (ws := wsX0_countJoined) B.pre
  have hown : s.vm.findClass RX0 = some m.cls := findClass_of_methodNamed B.named
  have hlocks := B.notSynchronized
  have S : CallFix p m c cX0_countJoined 3 s ([.ref h] : List Value).toArray wsX0_countJoined RX0 := ⟨hx, hb, hml, hown, hts⟩
  have hl := lv_entry ([.ref h]) (n := 3) (Nat.le_of_ble_eq_true rfl)
  rw [lg_entry_eq]
  generalize (lg_sl ([.ref h]) ++ List.replicate (3 - (lg_sl ([.ref h])).length) Slot.unset).toArray = ls at hl ⊢
  have hl : lv_has ls 3 [(0, .ref h)] := hl
  refine lv_iconst (v := 0) hx hb dX0_countJoined_0 (by decide) ?_
  refine lv_istore_n (lv' := [(1, .int ((0 : Int32))), (0, .ref h)]) hx hb dX0_countJoined_1 rfl hl (by decide) rfl (fun ls hl => ?_)
  refine lv_iconst (v := 0) hx hb dX0_countJoined_2 (by decide) ?_
  refine lv_istore_n (lv' := [(2, .int ((0 : Int32))), (1, .int ((0 : Int32))), (0, .ref h)]) hx hb dX0_countJoined_3 rfl hl (by decide) rfl (fun ls hl => ?_)
  refine lp_X0_countJoined_4 l dC dI h a1 a2 a3 a4 a5 cA me tm fN fM fJ fT fC S hK hP ⟨Nat.le_of_ble_eq_true rfl, Nat.le_of_ble_eq_true rfl⟩ (fun ls hl => ?_) 136 0 rfl ls (lv_sub hl [2, 1, 0] rfl)
  refine lv_iload_n hx hb dX0_countJoined_33 rfl (lv_at hl 1 rfl) ?_
  exact W.iret (v := cntI (xNbq tm fJ) 136) hx hb hr (fun t ht hW => ⟨rfl, ht⟩) (fun q h => absurd h List.not_mem_nil) dX0_countJoined_34
theorem hd_X0_countJoined : yX0_countJoined.cls = RX0 ∧ yX0_countJoined.cls ≠ "java/lang/invoke/MethodHandle" ∧ yX0_countJoined.cls ≠ "java/lang/invoke/VarHandle" ∧ (parseMethodDescriptor yX0_countJoined.desc).map (fun d => d.parameters.length) = some 0 := by decide +kernel

theorem iwsX0_joined : ∀ w ∈ u_ws RX0 TX0 7, w ∈ wsX0_joined := fun _ h => List.mem_cons_of_mem _ (List.mem_append_right _ h)
set_option maxHeartbeats 4000000 in
set_option maxRecDepth 100000 in
theorem c_X0_joined (l : Launch) (dC : Nat → ClassId) (dI : Nat → Nat → Nat) (h a1 a2 a3 a4 a5 : Nat) (cA : ClassId) (me tm : Int32) (fN fM fJ fT fC : Nat → Int32) (g q : Int32) : Met l yX0_joined wsX0_joined ({ frames := 2, cells := 0, slots := 0, locals := 42 }) (PR [.ref h, .int g, .int q] dC dI cA (wX h a1 a2 a3 a4 a5 cA me tm fN fM fJ fT fC)) (QcRead (xJd tm fJ g q)) 0 0 (fun _ => False) := by
  refine Met.ofW (cc := cX0_joined) (maxL := 3) (ret := some .int) (by decide) rfl ?_
  intro p e s m args below meth c s₁ B hml hv
  obtain ⟨rfl, hP, hK⟩ := hv
  have hx := B.exec
  have hb := B.bytes
  have hr := B.returns
  have hts := atoms_spec (ws := wsX0_joined) B.pre
  have hown : s.vm.findClass RX0 = some m.cls := findClass_of_methodNamed B.named
  have hlocks := B.notSynchronized
  have S : CallFix p m c cX0_joined 3 s ([.ref h, .int g, .int q] : List Value).toArray wsX0_joined RX0 := ⟨hx, hb, hml, hown, hts⟩
  have hl := lv_entry ([.ref h, .int g, .int q]) (n := 3) (Nat.le_of_ble_eq_true rfl)
  rw [lg_entry_eq]
  generalize (lg_sl ([.ref h, .int g, .int q]) ++ List.replicate (3 - (lg_sl ([.ref h, .int g, .int q])).length) Slot.unset).toArray = ls at hl ⊢
  have hl : lv_has ls 3 [(0, .ref h), (1, .int g), (2, .int q)] := hl
  refine lv_iload_n hx hb dX0_joined_0 rfl (lv_at hl 1 rfl) ?_
  refine rd_S (As := [.int g]) (rest := []) S (c_X0_isGroup l g) gX0_joined_X0_isGroup rfl ⟨rfl, rfl⟩ hd_X0_isGroup ⟨Nat.le_of_ble_eq_true rfl, Nat.le_of_ble_eq_true rfl⟩ rfl hl.1 rfl (Nat.le_of_ble_eq_true rfl) dX0_joined_1 ⟨Nat.le_of_ble_eq_true rfl, Nat.le_of_ble_eq_true rfl⟩ ?_
  refine lv_if_eq (tgt := 14) hx hb dX0_joined_4 (by decide) (fun c4 => ?_) (fun c4 => ?_)
  · have b4 := bI_z c4
    refine lv_iconst (v := -1) hx hb dX0_joined_14 (by decide) ?_
    have er : (-1 : Int32) = xJd tm fJ g q := by simp [xJd, xJoB, b4]
    exact W.iret (v := (-1 : Int32)) hx hb hr (fun t ht hW => ⟨congrArg (fun z => Outcome.returned (some (Value.int z))) er, ht⟩) (fun q h => absurd h List.not_mem_nil) dX0_joined_15
  · have b4 := bI_nz c4
    refine lv_iload_n hx hb dX0_joined_7 rfl (lv_at hl 2 rfl) ?_
    refine rd_S (As := [.int q]) (rest := []) S (c_X0_isBranch l q) gX0_joined_X0_isBranch rfl ⟨rfl, rfl⟩ hd_X0_isBranch ⟨Nat.le_of_ble_eq_true rfl, Nat.le_of_ble_eq_true rfl⟩ rfl hl.1 rfl (Nat.le_of_ble_eq_true rfl) dX0_joined_8 ⟨Nat.le_of_ble_eq_true rfl, Nat.le_of_ble_eq_true rfl⟩ ?_
    refine lv_if_ne (tgt := 16) hx hb dX0_joined_11 (by decide) (fun c11 => ?_) (fun c11 => ?_)
    · have b11 := bI_nz c11
      refine lv_aload_n hx hb dX0_joined_16 rfl (lv_at hl 0 rfl) ?_
      refine lv_aload_n hx hb dX0_joined_17 rfl (lv_at hl 0 rfl) ?_
      refine va_get (D := (dC, dI)) (ci := 0) (v := .ref a3) (C := RX0) (T := TX0) (N := 7) hx hb hts iwsX0_joined hown hK hP 0 rfl rfl 4 (by decide) (hts (.fieldLink RX0 16 "BranchTimes" "joinedTill" "[I") (by decide +kernel)) (fun _ h9 => h9) rfl dX0_joined_18 ?_
      refine lv_iload_n hx hb dX0_joined_21 rfl (lv_at hl 1 rfl) ?_
      refine lv_iload_n hx hb dX0_joined_22 rfl (lv_at hl 2 rfl) ?_
      refine rd_S (As := [.int g, .int q]) (rest := [.ref a3, .ref h]) S (c_X0_branchPlace l g q) gX0_joined_X0_branchPlace rfl ⟨rfl, rfl⟩ hd_X0_branchPlace ⟨Nat.le_of_ble_eq_true rfl, Nat.le_of_ble_eq_true rfl⟩ rfl hl.1 rfl (Nat.le_of_ble_eq_true rfl) dX0_joined_23 ⟨Nat.le_of_ble_eq_true rfl, Nat.le_of_ble_eq_true rfl⟩ ?_
      refine va_iald (D := (dC, dI)) hx hb hK hP 3 0 rfl rfl (Pl_in b4 b11) dX0_joined_26 ?_
      refine rd_V (As := [.int (fJ (xPl g q).toNatClampNeg)]) (rest := []) (ci := 0) (qc := (RX0, TX0, 7)) S (c_X0_tillOrZero l dC dI h a1 a2 a3 a4 a5 cA me tm fN fM fJ fT fC (fJ (xPl g q).toNatClampNeg)) gX0_joined_X0_tillOrZero rfl ⟨rfl, rfl⟩ hd_X0_tillOrZero ⟨Nat.le_of_ble_eq_true rfl, Nat.le_of_ble_eq_true rfl⟩ hK hP rfl rfl rfl hl.1 rfl (Nat.le_of_ble_eq_true rfl) dX0_joined_27 ⟨Nat.le_of_ble_eq_true rfl, Nat.le_of_ble_eq_true rfl⟩ ?_
      have er : xTz tm (fJ (xPl g q).toNatClampNeg) = xJd tm fJ g q := by simp [xJd, xJoB, b4, b11]
      exact W.iret (v := xTz tm (fJ (xPl g q).toNatClampNeg)) hx hb hr (fun t ht hW => ⟨congrArg (fun z => Outcome.returned (some (Value.int z))) er, ht⟩) (fun q h => absurd h List.not_mem_nil) dX0_joined_30
    · have b11 := bI_z c11
      refine lv_iconst (v := -1) hx hb dX0_joined_14 (by decide) ?_
      have er : (-1 : Int32) = xJd tm fJ g q := by simp [xJd, xJoB, b4, b11]
      exact W.iret (v := (-1 : Int32)) hx hb hr (fun t ht hW => ⟨congrArg (fun z => Outcome.returned (some (Value.int z))) er, ht⟩) (fun q h => absurd h List.not_mem_nil) dX0_joined_15
theorem hd_X0_joined : yX0_joined.cls = RX0 ∧ yX0_joined.cls ≠ "java/lang/invoke/MethodHandle" ∧ yX0_joined.cls ≠ "java/lang/invoke/VarHandle" ∧ (parseMethodDescriptor yX0_joined.desc).map (fun d => d.parameters.length) = some 2 := by decide +kernel

theorem iwsX0_cut : ∀ w ∈ u_ws RX0 TX0 7, w ∈ wsX0_cut := fun _ h => List.mem_cons_of_mem _ (List.mem_append_right _ h)
set_option maxHeartbeats 4000000 in
set_option maxRecDepth 100000 in
theorem c_X0_cut (l : Launch) (dC : Nat → ClassId) (dI : Nat → Nat → Nat) (h a1 a2 a3 a4 a5 : Nat) (cA : ClassId) (me tm : Int32) (fN fM fJ fT fC : Nat → Int32) (g q : Int32) : Met l yX0_cut wsX0_cut ({ frames := 2, cells := 0, slots := 0, locals := 42 }) (PR [.ref h, .int g, .int q] dC dI cA (wX h a1 a2 a3 a4 a5 cA me tm fN fM fJ fT fC)) (QcRead (xCu tm fJ fT fC g q)) 0 0 (fun _ => False) := by
  refine Met.ofW (cc := cX0_cut) (maxL := 3) (ret := some .int) (by decide) rfl ?_
  intro p e s m args below meth c s₁ B hml hv
  obtain ⟨rfl, hP, hK⟩ := hv
  have hx := B.exec
  have hb := B.bytes
  have hr := B.returns
  have hts := atoms_spec (ws := wsX0_cut) B.pre
  have hown : s.vm.findClass RX0 = some m.cls := findClass_of_methodNamed B.named
  have hlocks := B.notSynchronized
  have S : CallFix p m c cX0_cut 3 s ([.ref h, .int g, .int q] : List Value).toArray wsX0_cut RX0 := ⟨hx, hb, hml, hown, hts⟩
  have hl := lv_entry ([.ref h, .int g, .int q]) (n := 3) (Nat.le_of_ble_eq_true rfl)
  rw [lg_entry_eq]
  generalize (lg_sl ([.ref h, .int g, .int q]) ++ List.replicate (3 - (lg_sl ([.ref h, .int g, .int q])).length) Slot.unset).toArray = ls at hl ⊢
  have hl : lv_has ls 3 [(0, .ref h), (1, .int g), (2, .int q)] := hl
  refine lv_iload_n hx hb dX0_cut_0 rfl (lv_at hl 1 rfl) ?_
  refine rd_S (As := [.int g]) (rest := []) S (c_X0_isGroup l g) gX0_cut_X0_isGroup rfl ⟨rfl, rfl⟩ hd_X0_isGroup ⟨Nat.le_of_ble_eq_true rfl, Nat.le_of_ble_eq_true rfl⟩ rfl hl.1 rfl (Nat.le_of_ble_eq_true rfl) dX0_cut_1 ⟨Nat.le_of_ble_eq_true rfl, Nat.le_of_ble_eq_true rfl⟩ ?_
  refine lv_if_eq (tgt := 14) hx hb dX0_cut_4 (by decide) (fun c4 => ?_) (fun c4 => ?_)
  · have b4 := bI_z c4
    refine lv_iconst (v := -1) hx hb dX0_cut_14 (by decide) ?_
    have er : (-1 : Int32) = xCu tm fJ fT fC g q := by simp [xCu, b4]
    exact W.iret (v := (-1 : Int32)) hx hb hr (fun t ht hW => ⟨congrArg (fun z => Outcome.returned (some (Value.int z))) er, ht⟩) (fun q h => absurd h List.not_mem_nil) dX0_cut_15
  · have b4 := bI_nz c4
    refine lv_iload_n hx hb dX0_cut_7 rfl (lv_at hl 2 rfl) ?_
    refine rd_S (As := [.int q]) (rest := []) S (c_X0_isSource l q) gX0_cut_X0_isSource rfl ⟨rfl, rfl⟩ hd_X0_isSource ⟨Nat.le_of_ble_eq_true rfl, Nat.le_of_ble_eq_true rfl⟩ rfl hl.1 rfl (Nat.le_of_ble_eq_true rfl) dX0_cut_8 ⟨Nat.le_of_ble_eq_true rfl, Nat.le_of_ble_eq_true rfl⟩ ?_
    refine lv_if_ne (tgt := 16) hx hb dX0_cut_11 (by decide) (fun c11 => ?_) (fun c11 => ?_)
    · have b11 := bI_nz c11
      refine lv_aload_n hx hb dX0_cut_16 rfl (lv_at hl 0 rfl) ?_
      refine lv_iload_n hx hb dX0_cut_17 rfl (lv_at hl 1 rfl) ?_
      refine rd_V (As := [.int g]) (rest := []) (ci := 0) (qc := (RX0, TX0, 7)) S (c_X0_isJoinedForStar l dC dI h a1 a2 a3 a4 a5 cA me tm fN fM fJ fT fC g b4) gX0_cut_X0_isJoinedForStar rfl ⟨rfl, rfl⟩ hd_X0_isJoinedForStar ⟨Nat.le_of_ble_eq_true rfl, Nat.le_of_ble_eq_true rfl⟩ hK hP rfl rfl rfl hl.1 rfl (Nat.le_of_ble_eq_true rfl) dX0_cut_18 ⟨Nat.le_of_ble_eq_true rfl, Nat.le_of_ble_eq_true rfl⟩ ?_
      refine lv_if_eq (tgt := 37) hx hb dX0_cut_21 (by decide) (fun c21 => ?_) (fun c21 => ?_)
      · have b21 := bI_z c21
        refine lv_iconst (v := 0) hx hb dX0_cut_37 (by decide) ?_
        have er : (0 : Int32) = xCu tm fJ fT fC g q := by simp [xCu, b4, b11, b21]
        exact W.iret (v := (0 : Int32)) hx hb hr (fun t ht hW => ⟨congrArg (fun z => Outcome.returned (some (Value.int z))) er, ht⟩) (fun q h => absurd h List.not_mem_nil) dX0_cut_38
      · have b21 := bI_nz c21
        refine lv_aload_n hx hb dX0_cut_24 rfl (lv_at hl 0 rfl) ?_
        refine va_get (D := (dC, dI)) (ci := 0) (v := .ref a4) (C := RX0) (T := TX0) (N := 7) hx hb hts iwsX0_cut hown hK hP 0 rfl rfl 5 (by decide) (hts (.fieldLink RX0 19 "BranchTimes" "told" "[I") (by decide +kernel)) (fun _ h9 => h9) rfl dX0_cut_25 ?_
        refine lv_iload_n hx hb dX0_cut_28 rfl (lv_at hl 1 rfl) ?_
        refine va_iald (D := (dC, dI)) hx hb hK hP 4 0 rfl rfl (G_in b4) dX0_cut_29 ?_
        refine lv_iload_n hx hb dX0_cut_30 rfl (lv_at hl 2 rfl) ?_
        refine rd_S (As := [.int (fT g.toNatClampNeg), .int q]) (rest := []) S (c_X0_hasBit l (fT g.toNatClampNeg) q) gX0_cut_X0_hasBit rfl ⟨rfl, rfl⟩ hd_X0_hasBit ⟨Nat.le_of_ble_eq_true rfl, Nat.le_of_ble_eq_true rfl⟩ rfl hl.1 rfl (Nat.le_of_ble_eq_true rfl) dX0_cut_31 ⟨Nat.le_of_ble_eq_true rfl, Nat.le_of_ble_eq_true rfl⟩ ?_
        refine lv_if_ne (tgt := 39) hx hb dX0_cut_34 (by decide) (fun c34 => ?_) (fun c34 => ?_)
        · have b34 := bI_nz c34
          refine lv_aload_n hx hb dX0_cut_39 rfl (lv_at hl 0 rfl) ?_
          refine va_get (D := (dC, dI)) (ci := 0) (v := .ref a5) (C := RX0) (T := TX0) (N := 7) hx hb hts iwsX0_cut hown hK hP 0 rfl rfl 6 (by decide) (hts (.fieldLink RX0 22 "BranchTimes" "cutFrom" "[I") (by decide +kernel)) (fun _ h9 => h9) rfl dX0_cut_40 ?_
          refine lv_iload_n hx hb dX0_cut_43 rfl (lv_at hl 1 rfl) ?_
          refine lv_iload_n hx hb dX0_cut_44 rfl (lv_at hl 2 rfl) ?_
          refine rd_S (As := [.int g, .int q]) (rest := [.ref a5]) S (c_X0_cutPlace l g q) gX0_cut_X0_cutPlace rfl ⟨rfl, rfl⟩ hd_X0_cutPlace ⟨Nat.le_of_ble_eq_true rfl, Nat.le_of_ble_eq_true rfl⟩ rfl hl.1 rfl (Nat.le_of_ble_eq_true rfl) dX0_cut_45 ⟨Nat.le_of_ble_eq_true rfl, Nat.le_of_ble_eq_true rfl⟩ ?_
          refine va_iald (D := (dC, dI)) hx hb hK hP 5 0 rfl rfl (Cp_in b4 b11) dX0_cut_48 ?_
          have er : fC (xCp g q).toNatClampNeg = xCu tm fJ fT fC g q := by simp [xCu, b4, b11, b21, b34]
          exact W.iret (v := fC (xCp g q).toNatClampNeg) hx hb hr (fun t ht hW => ⟨congrArg (fun z => Outcome.returned (some (Value.int z))) er, ht⟩) (fun q h => absurd h List.not_mem_nil) dX0_cut_49
        · have b34 := bI_z c34
          refine lv_iconst (v := 0) hx hb dX0_cut_37 (by decide) ?_
          have er : (0 : Int32) = xCu tm fJ fT fC g q := by simp [xCu, b4, b11, b21, b34]
          exact W.iret (v := (0 : Int32)) hx hb hr (fun t ht hW => ⟨congrArg (fun z => Outcome.returned (some (Value.int z))) er, ht⟩) (fun q h => absurd h List.not_mem_nil) dX0_cut_38
    · have b11 := bI_z c11
      refine lv_iconst (v := -1) hx hb dX0_cut_14 (by decide) ?_
      have er : (-1 : Int32) = xCu tm fJ fT fC g q := by simp [xCu, b4, b11]
      exact W.iret (v := (-1 : Int32)) hx hb hr (fun t ht hW => ⟨congrArg (fun z => Outcome.returned (some (Value.int z))) er, ht⟩) (fun q h => absurd h List.not_mem_nil) dX0_cut_15
theorem hd_X0_cut : yX0_cut.cls = RX0 ∧ yX0_cut.cls ≠ "java/lang/invoke/MethodHandle" ∧ yX0_cut.cls ≠ "java/lang/invoke/VarHandle" ∧ (parseMethodDescriptor yX0_cut.desc).map (fun d => d.parameters.length) = some 2 := by decide +kernel

theorem iwsX0_members : ∀ w ∈ u_ws RX0 TX0 7, w ∈ wsX0_members := fun _ h => List.mem_cons_of_mem _ (List.mem_append_right _ h)
set_option maxHeartbeats 4000000 in
set_option maxRecDepth 100000 in
theorem c_X0_members (l : Launch) (dC : Nat → ClassId) (dI : Nat → Nat → Nat) (h a1 a2 a3 a4 a5 : Nat) (cA : ClassId) (me tm : Int32) (fN fM fJ fT fC : Nat → Int32) (g : Int32) : Met l yX0_members wsX0_members ({ frames := 2, cells := 0, slots := 0, locals := 42 }) (PR [.ref h, .int g] dC dI cA (wX h a1 a2 a3 a4 a5 cA me tm fN fM fJ fT fC)) (QcRead (xMe tm fM g)) 0 0 (fun _ => False) := by
  refine Met.ofW (cc := cX0_members) (maxL := 2) (ret := some .int) (by decide) rfl ?_
  intro p e s m args below meth c s₁ B hml hv
  obtain ⟨rfl, hP, hK⟩ := hv
  have hx := B.exec
  have hb := B.bytes
  have hr := B.returns
  have hts := atoms_spec (ws := wsX0_members) B.pre
  have hown : s.vm.findClass RX0 = some m.cls := findClass_of_methodNamed B.named
  have hlocks := B.notSynchronized
  have S : CallFix p m c cX0_members 2 s ([.ref h, .int g] : List Value).toArray wsX0_members RX0 := ⟨hx, hb, hml, hown, hts⟩
  have hl := lv_entry ([.ref h, .int g]) (n := 2) (Nat.le_of_ble_eq_true rfl)
  rw [lg_entry_eq]
  generalize (lg_sl ([.ref h, .int g]) ++ List.replicate (2 - (lg_sl ([.ref h, .int g])).length) Slot.unset).toArray = ls at hl ⊢
  have hl : lv_has ls 2 [(0, .ref h), (1, .int g)] := hl
  refine lv_iload_n hx hb dX0_members_0 rfl (lv_at hl 1 rfl) ?_
  refine rd_S (As := [.int g]) (rest := []) S (c_X0_isGroup l g) gX0_members_X0_isGroup rfl ⟨rfl, rfl⟩ hd_X0_isGroup ⟨Nat.le_of_ble_eq_true rfl, Nat.le_of_ble_eq_true rfl⟩ rfl hl.1 rfl (Nat.le_of_ble_eq_true rfl) dX0_members_1 ⟨Nat.le_of_ble_eq_true rfl, Nat.le_of_ble_eq_true rfl⟩ ?_
  refine lv_if_ne (tgt := 9) hx hb dX0_members_4 (by decide) (fun c4 => ?_) (fun c4 => ?_)
  · have b4 := bI_nz c4
    refine lv_aload_n hx hb dX0_members_9 rfl (lv_at hl 0 rfl) ?_
    refine lv_aload_n hx hb dX0_members_10 rfl (lv_at hl 0 rfl) ?_
    refine va_get (D := (dC, dI)) (ci := 0) (v := .ref a2) (C := RX0) (T := TX0) (N := 7) hx hb hts iwsX0_members hown hK hP 0 rfl rfl 3 (by decide) (hts (.fieldLink RX0 13 "BranchTimes" "membersTill" "[I") (by decide +kernel)) (fun _ h9 => h9) rfl dX0_members_11 ?_
    refine lv_iload_n hx hb dX0_members_14 rfl (lv_at hl 1 rfl) ?_
    refine va_iald (D := (dC, dI)) hx hb hK hP 2 0 rfl rfl (G_in b4) dX0_members_15 ?_
    refine rd_V (As := [.int (fM g.toNatClampNeg)]) (rest := []) (ci := 0) (qc := (RX0, TX0, 7)) S (c_X0_tillOrZero l dC dI h a1 a2 a3 a4 a5 cA me tm fN fM fJ fT fC (fM g.toNatClampNeg)) gX0_members_X0_tillOrZero rfl ⟨rfl, rfl⟩ hd_X0_tillOrZero ⟨Nat.le_of_ble_eq_true rfl, Nat.le_of_ble_eq_true rfl⟩ hK hP rfl rfl rfl hl.1 rfl (Nat.le_of_ble_eq_true rfl) dX0_members_16 ⟨Nat.le_of_ble_eq_true rfl, Nat.le_of_ble_eq_true rfl⟩ ?_
    have er : xTz tm (fM g.toNatClampNeg) = xMe tm fM g := by simp [xMe, b4]
    exact W.iret (v := xTz tm (fM g.toNatClampNeg)) hx hb hr (fun t ht hW => ⟨congrArg (fun z => Outcome.returned (some (Value.int z))) er, ht⟩) (fun q h => absurd h List.not_mem_nil) dX0_members_19
  · have b4 := bI_z c4
    refine lv_iconst (v := -1) hx hb dX0_members_7 (by decide) ?_
    have er : (-1 : Int32) = xMe tm fM g := by simp [xMe, b4]
    exact W.iret (v := (-1 : Int32)) hx hb hr (fun t ht hW => ⟨congrArg (fun z => Outcome.returned (some (Value.int z))) er, ht⟩) (fun q h => absurd h List.not_mem_nil) dX0_members_8
theorem hd_X0_members : yX0_members.cls = RX0 ∧ yX0_members.cls ≠ "java/lang/invoke/MethodHandle" ∧ yX0_members.cls ≠ "java/lang/invoke/VarHandle" ∧ (parseMethodDescriptor yX0_members.desc).map (fun d => d.parameters.length) = some 1 := by decide +kernel

theorem iwsX0_goes : ∀ w ∈ u_ws RX0 TX0 7, w ∈ wsX0_goes := fun _ h => List.mem_cons_of_mem _ (List.mem_append_right _ h)
set_option maxHeartbeats 4000000 in
set_option maxRecDepth 100000 in
theorem c_X0_goes (l : Launch) (dC : Nat → ClassId) (dI : Nat → Nat → Nat) (h a1 a2 a3 a4 a5 : Nat) (cA : ClassId) (me tm : Int32) (fN fM fJ fT fC : Nat → Int32) (g : Int32) : Met l yX0_goes wsX0_goes ({ frames := 4, cells := 0, slots := 0, locals := 87 }) (PR [.ref h, .int g] dC dI cA (wX h a1 a2 a3 a4 a5 cA me tm fN fM fJ fT fC)) (QcRead (xGoes me tm fN fM fJ fT fC g)) 0 0 (fun _ => False) := by
  refine Met.ofW (cc := cX0_goes) (maxL := 2) (ret := some .int) (by decide) rfl ?_
  intro p e s m args below meth c s₁ B hml hv
  obtain ⟨rfl, hP, hK⟩ := hv
  have hx := B.exec
  have hb := B.bytes
  have hr := B.returns
  have hts := atoms_spec (ws := wsX0_goes) B.pre
  have hown : s.vm.findClass RX0 = some m.cls := findClass_of_methodNamed B.named
  have hlocks := B.notSynchronized
  have S : CallFix p m c cX0_goes 2 s ([.ref h, .int g] : List Value).toArray wsX0_goes RX0 := ⟨hx, hb, hml, hown, hts⟩
  have hl := lv_entry ([.ref h, .int g]) (n := 2) (Nat.le_of_ble_eq_true rfl)
  rw [lg_entry_eq]
  generalize (lg_sl ([.ref h, .int g]) ++ List.replicate (2 - (lg_sl ([.ref h, .int g])).length) Slot.unset).toArray = ls at hl ⊢
  have hl : lv_has ls 2 [(0, .ref h), (1, .int g)] := hl
  refine lv_iload_n hx hb dX0_goes_0 rfl (lv_at hl 1 rfl) ?_
  refine rd_S (As := [.int g]) (rest := []) S (c_X0_isGroup l g) gX0_goes_X0_isGroup rfl ⟨rfl, rfl⟩ hd_X0_isGroup ⟨Nat.le_of_ble_eq_true rfl, Nat.le_of_ble_eq_true rfl⟩ rfl hl.1 rfl (Nat.le_of_ble_eq_true rfl) dX0_goes_1 ⟨Nat.le_of_ble_eq_true rfl, Nat.le_of_ble_eq_true rfl⟩ ?_
  refine lv_if_ne (tgt := 9) hx hb dX0_goes_4 (by decide) (fun c4 => ?_) (fun c4 => ?_)
  · have b4 := bI_nz c4
    refine lv_aload_n hx hb dX0_goes_9 rfl (lv_at hl 0 rfl) ?_
    refine lv_iload_n hx hb dX0_goes_10 rfl (lv_at hl 1 rfl) ?_
    refine rd_V (As := [.int g]) (rest := []) (ci := 0) (qc := (RX0, TX0, 7)) S (c_X0_sourcesThatGo l dC dI h a1 a2 a3 a4 a5 cA me tm fN fM fJ fT fC g b4) gX0_goes_X0_sourcesThatGo rfl ⟨rfl, rfl⟩ hd_X0_sourcesThatGo ⟨Nat.le_of_ble_eq_true rfl, Nat.le_of_ble_eq_true rfl⟩ hK hP rfl rfl rfl hl.1 rfl (Nat.le_of_ble_eq_true rfl) dX0_goes_11 ⟨Nat.le_of_ble_eq_true rfl, Nat.le_of_ble_eq_true rfl⟩ ?_
    have er : xGo me tm fN fM fJ fT fC g = xGoes me tm fN fM fJ fT fC g := by simp [xGoes, b4]
    exact W.iret (v := xGo me tm fN fM fJ fT fC g) hx hb hr (fun t ht hW => ⟨congrArg (fun z => Outcome.returned (some (Value.int z))) er, ht⟩) (fun q h => absurd h List.not_mem_nil) dX0_goes_14
  · have b4 := bI_z c4
    refine lv_iconst (v := -1) hx hb dX0_goes_7 (by decide) ?_
    have er : (-1 : Int32) = xGoes me tm fN fM fJ fT fC g := by simp [xGoes, b4]
    exact W.iret (v := (-1 : Int32)) hx hb hr (fun t ht hW => ⟨congrArg (fun z => Outcome.returned (some (Value.int z))) er, ht⟩) (fun q h => absurd h List.not_mem_nil) dX0_goes_8
theorem hd_X0_goes : yX0_goes.cls = RX0 ∧ yX0_goes.cls ≠ "java/lang/invoke/MethodHandle" ∧ yX0_goes.cls ≠ "java/lang/invoke/VarHandle" ∧ (parseMethodDescriptor yX0_goes.desc).map (fun d => d.parameters.length) = some 1 := by decide +kernel

theorem iwsX0_look : ∀ w ∈ u_ws RX0 TX0 7, w ∈ wsX0_look := fun _ h => List.mem_cons_of_mem _ (List.mem_append_right _ h)
set_option maxHeartbeats 4000000 in
set_option maxRecDepth 100000 in
theorem c_X0_look (l : Launch) (dC : Nat → ClassId) (dI : Nat → Nat → Nat) (h a1 a2 a3 a4 a5 : Nat) (cA : ClassId) (me tm : Int32) (fN fM fJ fT fC : Nat → Int32) (w : Int32) : Met l yX0_look wsX0_look ({ frames := 5, cells := 0, slots := 0, locals := 109 }) (PR [.ref h, .int w] dC dI cA (wX h a1 a2 a3 a4 a5 cA me tm fN fM fJ fT fC)) (QcRead (xLook me tm fN fM fJ fT fC w)) 0 0 (fun _ => False) := by
  refine Met.ofW (cc := cX0_look) (maxL := 2) (ret := some .int) (by decide) rfl ?_
  intro p e s m args below meth c s₁ B hml hv
  obtain ⟨rfl, hP, hK⟩ := hv
  have hx := B.exec
  have hb := B.bytes
  have hr := B.returns
  have hts := atoms_spec (ws := wsX0_look) B.pre
  have hown : s.vm.findClass RX0 = some m.cls := findClass_of_methodNamed B.named
  have hlocks := B.notSynchronized
  have S : CallFix p m c cX0_look 2 s ([.ref h, .int w] : List Value).toArray wsX0_look RX0 := ⟨hx, hb, hml, hown, hts⟩
  have hl := lv_entry ([.ref h, .int w]) (n := 2) (Nat.le_of_ble_eq_true rfl)
  rw [lg_entry_eq]
  generalize (lg_sl ([.ref h, .int w]) ++ List.replicate (2 - (lg_sl ([.ref h, .int w])).length) Slot.unset).toArray = ls at hl ⊢
  have hl : lv_has ls 2 [(0, .ref h), (1, .int w)] := hl
  refine lv_iload_n hx hb dX0_look_0 rfl (lv_at hl 1 rfl) ?_
  rcases Decidable.em (w = 0) with hw0 | hw0
  · refine lv_tableIn (off := 47) (tgt := 48) hx hb dX0_look_1 (by rw [hw0]; decide) (by rw [hw0]; decide) (by rw [hw0]; rfl) (by decide) ?_
    refine lv_aload_n hx hb dX0_look_48 rfl (lv_at hl 0 rfl) ?_
    refine va_get (D := (dC, dI)) (ci := 0) (v := .int tm) (C := RX0) (T := TX0) (N := 7) hx hb hts iwsX0_look hown hK hP 0 rfl rfl 1 (by decide) (hts (.fieldLink RX0 38 "BranchTimes" "time" "I") (by decide +kernel)) (fun _ h9 => h9) rfl dX0_look_49 ?_
    have er : tm = xLook me tm fN fM fJ fT fC w := by unfold xLook; rw [if_pos hw0]
    exact W.iret (v := tm) hx hb hr (fun t ht hW => ⟨congrArg (fun z => Outcome.returned (some (Value.int z))) er, ht⟩) (fun q h => absurd h List.not_mem_nil) dX0_look_52
  rcases Decidable.em (w = 1) with hw1 | hw1
  · refine lv_tableIn (off := 52) (tgt := 53) hx hb dX0_look_1 (by rw [hw1]; decide) (by rw [hw1]; decide) (by rw [hw1]; rfl) (by decide) ?_
    refine lv_aload_n hx hb dX0_look_53 rfl (lv_at hl 0 rfl) ?_
    refine rd_V (As := []) (rest := []) (ci := 0) (qc := (RX0, TX0, 7)) S (c_X0_neighbourBits l dC dI h a1 a2 a3 a4 a5 cA me tm fN fM fJ fT fC) gX0_look_X0_neighbourBits rfl ⟨rfl, rfl⟩ hd_X0_neighbourBits ⟨Nat.le_of_ble_eq_true rfl, Nat.le_of_ble_eq_true rfl⟩ hK hP rfl rfl rfl hl.1 rfl (Nat.le_of_ble_eq_true rfl) dX0_look_54 ⟨Nat.le_of_ble_eq_true rfl, Nat.le_of_ble_eq_true rfl⟩ ?_
    have er : xNb tm fN = xLook me tm fN fM fJ fT fC w := by unfold xLook; rw [if_neg (by rw [hw1]; decide), if_pos hw1]
    exact W.iret (v := xNb tm fN) hx hb hr (fun t ht hW => ⟨congrArg (fun z => Outcome.returned (some (Value.int z))) er, ht⟩) (fun q h => absurd h List.not_mem_nil) dX0_look_57
  rcases Decidable.em (w = 2) with hw2 | hw2
  · refine lv_tableIn (off := 57) (tgt := 58) hx hb dX0_look_1 (by rw [hw2]; decide) (by rw [hw2]; decide) (by rw [hw2]; rfl) (by decide) ?_
    refine lv_aload_n hx hb dX0_look_58 rfl (lv_at hl 0 rfl) ?_
    refine rd_V (As := []) (rest := []) (ci := 0) (qc := (RX0, TX0, 7)) S (c_X0_isFirst l dC dI h a1 a2 a3 a4 a5 cA me tm fN fM fJ fT fC) gX0_look_X0_isFirst rfl ⟨rfl, rfl⟩ hd_X0_isFirst ⟨Nat.le_of_ble_eq_true rfl, Nat.le_of_ble_eq_true rfl⟩ hK hP rfl rfl rfl hl.1 rfl (Nat.le_of_ble_eq_true rfl) dX0_look_59 ⟨Nat.le_of_ble_eq_true rfl, Nat.le_of_ble_eq_true rfl⟩ ?_
    refine rd_S (As := [.int (bI (xFirst me (xNb tm fN)))]) (rest := []) S (c_X0_oneIf l (bI (xFirst me (xNb tm fN)))) gX0_look_X0_oneIf rfl ⟨rfl, rfl⟩ hd_X0_oneIf ⟨Nat.le_of_ble_eq_true rfl, Nat.le_of_ble_eq_true rfl⟩ rfl hl.1 rfl (Nat.le_of_ble_eq_true rfl) dX0_look_62 ⟨Nat.le_of_ble_eq_true rfl, Nat.le_of_ble_eq_true rfl⟩ ?_
    refine lv_top (x' := bI (xFirst me (xNb tm fN))) (oneIf_bI (xFirst me (xNb tm fN))) ?_
    have er : bI (xFirst me (xNb tm fN)) = xLook me tm fN fM fJ fT fC w := by unfold xLook; rw [if_neg (by rw [hw2]; decide), if_neg (by rw [hw2]; decide), if_pos hw2]
    exact W.iret (v := bI (xFirst me (xNb tm fN))) hx hb hr (fun t ht hW => ⟨congrArg (fun z => Outcome.returned (some (Value.int z))) er, ht⟩) (fun q h => absurd h List.not_mem_nil) dX0_look_65
  rcases Decidable.em (w = 3) with hw3 | hw3
  · refine lv_tableIn (off := 65) (tgt := 66) hx hb dX0_look_1 (by rw [hw3]; decide) (by rw [hw3]; decide) (by rw [hw3]; rfl) (by decide) ?_
    refine lv_aload_n hx hb dX0_look_66 rfl (lv_at hl 0 rfl) ?_
    refine rd_V (As := []) (rest := []) (ci := 0) (qc := (RX0, TX0, 7)) S (c_X0_isAsking l dC dI h a1 a2 a3 a4 a5 cA me tm fN fM fJ fT fC) gX0_look_X0_isAsking rfl ⟨rfl, rfl⟩ hd_X0_isAsking ⟨Nat.le_of_ble_eq_true rfl, Nat.le_of_ble_eq_true rfl⟩ hK hP rfl rfl rfl hl.1 rfl (Nat.le_of_ble_eq_true rfl) dX0_look_67 ⟨Nat.le_of_ble_eq_true rfl, Nat.le_of_ble_eq_true rfl⟩ ?_
    refine rd_S (As := [.int (bI (xAsk me (xNb tm fN)))]) (rest := []) S (c_X0_oneIf l (bI (xAsk me (xNb tm fN)))) gX0_look_X0_oneIf rfl ⟨rfl, rfl⟩ hd_X0_oneIf ⟨Nat.le_of_ble_eq_true rfl, Nat.le_of_ble_eq_true rfl⟩ rfl hl.1 rfl (Nat.le_of_ble_eq_true rfl) dX0_look_70 ⟨Nat.le_of_ble_eq_true rfl, Nat.le_of_ble_eq_true rfl⟩ ?_
    refine lv_top (x' := bI (xAsk me (xNb tm fN))) (oneIf_bI (xAsk me (xNb tm fN))) ?_
    have er : bI (xAsk me (xNb tm fN)) = xLook me tm fN fM fJ fT fC w := by unfold xLook; rw [if_neg (by rw [hw3]; decide), if_neg (by rw [hw3]; decide), if_neg (by rw [hw3]; decide), if_pos hw3]
    exact W.iret (v := bI (xAsk me (xNb tm fN))) hx hb hr (fun t ht hW => ⟨congrArg (fun z => Outcome.returned (some (Value.int z))) er, ht⟩) (fun q h => absurd h List.not_mem_nil) dX0_look_73
  rcases Decidable.em (w = 4) with hw4 | hw4
  · refine lv_tableIn (off := 73) (tgt := 74) hx hb dX0_look_1 (by rw [hw4]; decide) (by rw [hw4]; decide) (by rw [hw4]; rfl) (by decide) ?_
    refine lv_aload_n hx hb dX0_look_74 rfl (lv_at hl 0 rfl) ?_
    refine rd_V (As := []) (rest := []) (ci := 0) (qc := (RX0, TX0, 7)) S (c_X0_isCrowded l dC dI h a1 a2 a3 a4 a5 cA me tm fN fM fJ fT fC) gX0_look_X0_isCrowded rfl ⟨rfl, rfl⟩ hd_X0_isCrowded ⟨Nat.le_of_ble_eq_true rfl, Nat.le_of_ble_eq_true rfl⟩ hK hP rfl rfl rfl hl.1 rfl (Nat.le_of_ble_eq_true rfl) dX0_look_75 ⟨Nat.le_of_ble_eq_true rfl, Nat.le_of_ble_eq_true rfl⟩ ?_
    refine rd_S (As := [.int (bI (xCrowd (xNb tm fN)))]) (rest := []) S (c_X0_oneIf l (bI (xCrowd (xNb tm fN)))) gX0_look_X0_oneIf rfl ⟨rfl, rfl⟩ hd_X0_oneIf ⟨Nat.le_of_ble_eq_true rfl, Nat.le_of_ble_eq_true rfl⟩ rfl hl.1 rfl (Nat.le_of_ble_eq_true rfl) dX0_look_78 ⟨Nat.le_of_ble_eq_true rfl, Nat.le_of_ble_eq_true rfl⟩ ?_
    refine lv_top (x' := bI (xCrowd (xNb tm fN))) (oneIf_bI (xCrowd (xNb tm fN))) ?_
    have er : bI (xCrowd (xNb tm fN)) = xLook me tm fN fM fJ fT fC w := by unfold xLook; rw [if_neg (by rw [hw4]; decide), if_neg (by rw [hw4]; decide), if_neg (by rw [hw4]; decide), if_neg (by rw [hw4]; decide), if_pos hw4]
    exact W.iret (v := bI (xCrowd (xNb tm fN))) hx hb hr (fun t ht hW => ⟨congrArg (fun z => Outcome.returned (some (Value.int z))) er, ht⟩) (fun q h => absurd h List.not_mem_nil) dX0_look_81
  rcases Decidable.em (w = 5) with hw5 | hw5
  · refine lv_tableIn (off := 81) (tgt := 82) hx hb dX0_look_1 (by rw [hw5]; decide) (by rw [hw5]; decide) (by rw [hw5]; rfl) (by decide) ?_
    refine lv_aload_n hx hb dX0_look_82 rfl (lv_at hl 0 rfl) ?_
    refine va_get (D := (dC, dI)) (ci := 0) (v := .int me) (C := RX0) (T := TX0) (N := 7) hx hb hts iwsX0_look hown hK hP 0 rfl rfl 0 (by decide) (hts (.fieldLink RX0 34 "BranchTimes" "me" "I") (by decide +kernel)) (fun _ h9 => h9) rfl dX0_look_83 ?_
    have er : me = xLook me tm fN fM fJ fT fC w := by unfold xLook; rw [if_neg (by rw [hw5]; decide), if_neg (by rw [hw5]; decide), if_neg (by rw [hw5]; decide), if_neg (by rw [hw5]; decide), if_neg (by rw [hw5]; decide), if_pos hw5]
    exact W.iret (v := me) hx hb hr (fun t ht hW => ⟨congrArg (fun z => Outcome.returned (some (Value.int z))) er, ht⟩) (fun q h => absurd h List.not_mem_nil) dX0_look_86
  rcases Decidable.em (w = 6) with hw6 | hw6
  · refine lv_tableIn (off := 86) (tgt := 87) hx hb dX0_look_1 (by rw [hw6]; decide) (by rw [hw6]; decide) (by rw [hw6]; rfl) (by decide) ?_
    refine lv_aload_n hx hb dX0_look_87 rfl (lv_at hl 0 rfl) ?_
    refine rd_V (As := []) (rest := []) (ci := 0) (qc := (RX0, TX0, 7)) S (c_X0_groupsThatGo l dC dI h a1 a2 a3 a4 a5 cA me tm fN fM fJ fT fC) gX0_look_X0_groupsThatGo rfl ⟨rfl, rfl⟩ hd_X0_groupsThatGo ⟨Nat.le_of_ble_eq_true rfl, Nat.le_of_ble_eq_true rfl⟩ hK hP rfl rfl rfl hl.1 rfl (Nat.le_of_ble_eq_true rfl) dX0_look_88 ⟨Nat.le_of_ble_eq_true rfl, Nat.le_of_ble_eq_true rfl⟩ ?_
    have er : xGr me tm fN fM fJ fT fC = xLook me tm fN fM fJ fT fC w := by unfold xLook; rw [if_neg (by rw [hw6]; decide), if_neg (by rw [hw6]; decide), if_neg (by rw [hw6]; decide), if_neg (by rw [hw6]; decide), if_neg (by rw [hw6]; decide), if_neg (by rw [hw6]; decide), if_pos hw6]
    exact W.iret (v := xGr me tm fN fM fJ fT fC) hx hb hr (fun t ht hW => ⟨congrArg (fun z => Outcome.returned (some (Value.int z))) er, ht⟩) (fun q h => absurd h List.not_mem_nil) dX0_look_91
  rcases Decidable.em (w = 7) with hw7 | hw7
  · refine lv_tableIn (off := 91) (tgt := 92) hx hb dX0_look_1 (by rw [hw7]; decide) (by rw [hw7]; decide) (by rw [hw7]; rfl) (by decide) ?_
    refine lv_aload_n hx hb dX0_look_92 rfl (lv_at hl 0 rfl) ?_
    refine rd_V (As := []) (rest := []) (ci := 0) (qc := (RX0, TX0, 7)) S (c_X0_countJoined l dC dI h a1 a2 a3 a4 a5 cA me tm fN fM fJ fT fC) gX0_look_X0_countJoined rfl ⟨rfl, rfl⟩ hd_X0_countJoined ⟨Nat.le_of_ble_eq_true rfl, Nat.le_of_ble_eq_true rfl⟩ hK hP rfl rfl rfl hl.1 rfl (Nat.le_of_ble_eq_true rfl) dX0_look_93 ⟨Nat.le_of_ble_eq_true rfl, Nat.le_of_ble_eq_true rfl⟩ ?_
    have er : xCnt tm fJ = xLook me tm fN fM fJ fT fC w := by unfold xLook; rw [if_neg (by rw [hw7]; decide), if_neg (by rw [hw7]; decide), if_neg (by rw [hw7]; decide), if_neg (by rw [hw7]; decide), if_neg (by rw [hw7]; decide), if_neg (by rw [hw7]; decide), if_neg (by rw [hw7]; decide), if_pos hw7]
    exact W.iret (v := xCnt tm fJ) hx hb hr (fun t ht hW => ⟨congrArg (fun z => Outcome.returned (some (Value.int z))) er, ht⟩) (fun q h => absurd h List.not_mem_nil) dX0_look_96
  refine lv_tableOut (tgt := 97) hx hb dX0_look_1 (tb_out8 hw0 hw1 hw2 hw3 hw4 hw5 hw6 hw7) (by decide) ?_
  refine lv_iconst (v := -1) hx hb dX0_look_97 (by decide) ?_
  have er : (-1 : Int32) = xLook me tm fN fM fJ fT fC w := by unfold xLook; rw [if_neg hw0, if_neg hw1, if_neg hw2, if_neg hw3, if_neg hw4, if_neg hw5, if_neg hw6, if_neg hw7]
  exact W.iret (v := (-1 : Int32)) hx hb hr (fun t ht hW => ⟨congrArg (fun z => Outcome.returned (some (Value.int z))) er, ht⟩) (fun q h => absurd h List.not_mem_nil) dX0_look_98
theorem hd_X0_look : yX0_look.cls = RX0 ∧ yX0_look.cls ≠ "java/lang/invoke/MethodHandle" ∧ yX0_look.cls ≠ "java/lang/invoke/VarHandle" ∧ (parseMethodDescriptor yX0_look.desc).map (fun d => d.parameters.length) = some 1 := by decide +kernel
