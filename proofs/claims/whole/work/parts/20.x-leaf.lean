set_option maxHeartbeats 4000000 in
set_option maxRecDepth 100000 in
theorem c_X0_isGroup (l : Launch) (g : Int32) : Met l yX0_isGroup wsX0_isGroup ({ frames := 0, cells := 0, slots := 0, locals := 0 }) (PS [.int g]) (QcRead (bI (xG g))) 0 0 (fun _ => False) := by
  refine Met.ofW (cc := cX0_isGroup) (maxL := 1) (ret := some .boolean) (by decide) rfl ?_
  intro p e s m args below meth c s₁ B hml hv
  obtain ⟨rfl, -⟩ := hv
  have hx := B.exec
  have hb := B.bytes
  have hr := B.returns
  have hts := atoms_spec (ws := wsX0_isGroup) B.pre
  have hown : s.vm.findClass RX0 = some m.cls := findClass_of_methodNamed B.named
  have hlocks := B.notSynchronized
  have S : CallFix p m c cX0_isGroup 1 s ([.int g] : List Value).toArray wsX0_isGroup RX0 := ⟨hx, hb, hml, hown, hts⟩
  have hl := lv_entry ([.int g]) (n := 1) (Nat.le_of_ble_eq_true rfl)
  rw [lg_entry_eq]
  generalize (lg_sl ([.int g]) ++ List.replicate (1 - (lg_sl ([.int g])).length) Slot.unset).toArray = ls at hl ⊢
  have hl : lv_has ls 1 [(0, .int g)] := hl
  refine lv_iload_n hx hb dX0_isGroup_0 rfl (lv_at hl 0 rfl) ?_
  refine lv_if_lt (tgt := 14) hx hb dX0_isGroup_1 (by decide) (fun c1 => ?_) (fun c1 => ?_)
  · refine lv_iconst (v := 0) hx hb dX0_isGroup_14 (by decide) ?_
    have er : (0 : Int32) = bI (xG g) := by simp [xG, bI, c1]
    exact W.zret (v := (0 : Int32)) (ty := .boolean) hx hb hr rfl (fun t ht hW => ⟨congrArg (fun z => Outcome.returned (some (Value.int z))) er, ht⟩) (fun q h => absurd h List.not_mem_nil) dX0_isGroup_15
  · refine lv_iload_n hx hb dX0_isGroup_4 rfl (lv_at hl 0 rfl) ?_
    refine lv_bipush (v := 8) hx hb dX0_isGroup_5 (by decide) ?_
    refine lv_icmp_ge (tgt := 14) hx hb dX0_isGroup_7 (by decide) (fun c7 => ?_) (fun c7 => ?_)
    · refine lv_iconst (v := 0) hx hb dX0_isGroup_14 (by decide) ?_
      have er : (0 : Int32) = bI (xG g) := by simp [xG, bI, c1, c7]
      exact W.zret (v := (0 : Int32)) (ty := .boolean) hx hb hr rfl (fun t ht hW => ⟨congrArg (fun z => Outcome.returned (some (Value.int z))) er, ht⟩) (fun q h => absurd h List.not_mem_nil) dX0_isGroup_15
    · refine lv_iconst (v := 1) hx hb dX0_isGroup_10 (by decide) ?_
      refine lv_goto (tgt := 15) hx hb dX0_isGroup_11 (by decide) ?_
      have er : (1 : Int32) = bI (xG g) := by simp [xG, bI, c1, c7]
      exact W.zret (v := (1 : Int32)) (ty := .boolean) hx hb hr rfl (fun t ht hW => ⟨congrArg (fun z => Outcome.returned (some (Value.int z))) er, ht⟩) (fun q h => absurd h List.not_mem_nil) dX0_isGroup_15
theorem hd_X0_isGroup : yX0_isGroup.cls ≠ "java/lang/invoke/MethodHandle" ∧ yX0_isGroup.cls ≠ "java/lang/invoke/VarHandle" ∧ (parseMethodDescriptor yX0_isGroup.desc).map (fun d => d.parameters.length) = some 1 := by decide +kernel

set_option maxHeartbeats 4000000 in
set_option maxRecDepth 100000 in
theorem c_X0_isSource (l : Launch) (q : Int32) : Met l yX0_isSource wsX0_isSource ({ frames := 0, cells := 0, slots := 0, locals := 0 }) (PS [.int q]) (QcRead (bI (xSrc q))) 0 0 (fun _ => False) := by
  refine Met.ofW (cc := cX0_isSource) (maxL := 1) (ret := some .boolean) (by decide) rfl ?_
  intro p e s m args below meth c s₁ B hml hv
  obtain ⟨rfl, -⟩ := hv
  have hx := B.exec
  have hb := B.bytes
  have hr := B.returns
  have hts := atoms_spec (ws := wsX0_isSource) B.pre
  have hown : s.vm.findClass RX0 = some m.cls := findClass_of_methodNamed B.named
  have hlocks := B.notSynchronized
  have S : CallFix p m c cX0_isSource 1 s ([.int q] : List Value).toArray wsX0_isSource RX0 := ⟨hx, hb, hml, hown, hts⟩
  have hl := lv_entry ([.int q]) (n := 1) (Nat.le_of_ble_eq_true rfl)
  rw [lg_entry_eq]
  generalize (lg_sl ([.int q]) ++ List.replicate (1 - (lg_sl ([.int q])).length) Slot.unset).toArray = ls at hl ⊢
  have hl : lv_has ls 1 [(0, .int q)] := hl
  refine lv_iload_n hx hb dX0_isSource_0 rfl (lv_at hl 0 rfl) ?_
  refine lv_if_lt (tgt := 14) hx hb dX0_isSource_1 (by decide) (fun c1 => ?_) (fun c1 => ?_)
  · refine lv_iconst (v := 0) hx hb dX0_isSource_14 (by decide) ?_
    have er : (0 : Int32) = bI (xSrc q) := by simp [xSrc, bI, c1]
    exact W.zret (v := (0 : Int32)) (ty := .boolean) hx hb hr rfl (fun t ht hW => ⟨congrArg (fun z => Outcome.returned (some (Value.int z))) er, ht⟩) (fun q h => absurd h List.not_mem_nil) dX0_isSource_15
  · refine lv_iload_n hx hb dX0_isSource_4 rfl (lv_at hl 0 rfl) ?_
    refine lv_bipush (v := 16) hx hb dX0_isSource_5 (by decide) ?_
    refine lv_icmp_ge (tgt := 14) hx hb dX0_isSource_7 (by decide) (fun c7 => ?_) (fun c7 => ?_)
    · refine lv_iconst (v := 0) hx hb dX0_isSource_14 (by decide) ?_
      have er : (0 : Int32) = bI (xSrc q) := by simp [xSrc, bI, c1, c7]
      exact W.zret (v := (0 : Int32)) (ty := .boolean) hx hb hr rfl (fun t ht hW => ⟨congrArg (fun z => Outcome.returned (some (Value.int z))) er, ht⟩) (fun q h => absurd h List.not_mem_nil) dX0_isSource_15
    · refine lv_iconst (v := 1) hx hb dX0_isSource_10 (by decide) ?_
      refine lv_goto (tgt := 15) hx hb dX0_isSource_11 (by decide) ?_
      have er : (1 : Int32) = bI (xSrc q) := by simp [xSrc, bI, c1, c7]
      exact W.zret (v := (1 : Int32)) (ty := .boolean) hx hb hr rfl (fun t ht hW => ⟨congrArg (fun z => Outcome.returned (some (Value.int z))) er, ht⟩) (fun q h => absurd h List.not_mem_nil) dX0_isSource_15
theorem hd_X0_isSource : yX0_isSource.cls ≠ "java/lang/invoke/MethodHandle" ∧ yX0_isSource.cls ≠ "java/lang/invoke/VarHandle" ∧ (parseMethodDescriptor yX0_isSource.desc).map (fun d => d.parameters.length) = some 1 := by decide +kernel

set_option maxHeartbeats 4000000 in
set_option maxRecDepth 100000 in
theorem c_X0_isBranch (l : Launch) (q : Int32) : Met l yX0_isBranch wsX0_isBranch ({ frames := 1, cells := 0, slots := 0, locals := 20 }) (PS [.int q]) (QcRead (bI (xBr q))) 0 0 (fun _ => False) := by
  refine Met.ofW (cc := cX0_isBranch) (maxL := 1) (ret := some .boolean) (by decide) rfl ?_
  intro p e s m args below meth c s₁ B hml hv
  obtain ⟨rfl, -⟩ := hv
  have hx := B.exec
  have hb := B.bytes
  have hr := B.returns
  have hts := atoms_spec (ws := wsX0_isBranch) B.pre
  have hown : s.vm.findClass RX0 = some m.cls := findClass_of_methodNamed B.named
  have hlocks := B.notSynchronized
  have S : CallFix p m c cX0_isBranch 1 s ([.int q] : List Value).toArray wsX0_isBranch RX0 := ⟨hx, hb, hml, hown, hts⟩
  have hl := lv_entry ([.int q]) (n := 1) (Nat.le_of_ble_eq_true rfl)
  rw [lg_entry_eq]
  generalize (lg_sl ([.int q]) ++ List.replicate (1 - (lg_sl ([.int q])).length) Slot.unset).toArray = ls at hl ⊢
  have hl : lv_has ls 1 [(0, .int q)] := hl
  refine lv_iload_n hx hb dX0_isBranch_0 rfl (lv_at hl 0 rfl) ?_
  refine lv_iconst (v := -1) hx hb dX0_isBranch_1 (by decide) ?_
  refine lv_icmp_eq (tgt := 12) hx hb dX0_isBranch_2 (by decide) (fun c2 => ?_) (fun c2 => ?_)
  · refine lv_iconst (v := 1) hx hb dX0_isBranch_12 (by decide) ?_
    refine lv_goto (tgt := 17) hx hb dX0_isBranch_13 (by decide) ?_
    have er : (1 : Int32) = bI (xBr q) := by simp [xBr, bI, c2]
    exact W.zret (v := (1 : Int32)) (ty := .boolean) hx hb hr rfl (fun t ht hW => ⟨congrArg (fun z => Outcome.returned (some (Value.int z))) er, ht⟩) (fun q h => absurd h List.not_mem_nil) dX0_isBranch_17
  · refine lv_iload_n hx hb dX0_isBranch_5 rfl (lv_at hl 0 rfl) ?_
    refine rd_S (As := [.int q]) (rest := []) S (c_X0_isSource l q) gX0_isBranch_X0_isSource rfl ⟨rfl, rfl⟩ hd_X0_isSource ⟨Nat.le_of_ble_eq_true rfl, Nat.le_of_ble_eq_true rfl⟩ rfl hl.1 rfl (Nat.le_of_ble_eq_true rfl) dX0_isBranch_6 ⟨Nat.le_of_ble_eq_true rfl, Nat.le_of_ble_eq_true rfl⟩ ?_
    refine lv_if_eq (tgt := 16) hx hb dX0_isBranch_9 (by decide) (fun c9 => ?_) (fun c9 => ?_)
    · have b9 := bI_z c9
      refine lv_iconst (v := 0) hx hb dX0_isBranch_16 (by decide) ?_
      have er : (0 : Int32) = bI (xBr q) := by simp [xBr, bI, c2, b9]
      exact W.zret (v := (0 : Int32)) (ty := .boolean) hx hb hr rfl (fun t ht hW => ⟨congrArg (fun z => Outcome.returned (some (Value.int z))) er, ht⟩) (fun q h => absurd h List.not_mem_nil) dX0_isBranch_17
    · have b9 := bI_nz c9
      refine lv_iconst (v := 1) hx hb dX0_isBranch_12 (by decide) ?_
      refine lv_goto (tgt := 17) hx hb dX0_isBranch_13 (by decide) ?_
      have er : (1 : Int32) = bI (xBr q) := by simp [xBr, bI, c2, b9]
      exact W.zret (v := (1 : Int32)) (ty := .boolean) hx hb hr rfl (fun t ht hW => ⟨congrArg (fun z => Outcome.returned (some (Value.int z))) er, ht⟩) (fun q h => absurd h List.not_mem_nil) dX0_isBranch_17
theorem hd_X0_isBranch : yX0_isBranch.cls ≠ "java/lang/invoke/MethodHandle" ∧ yX0_isBranch.cls ≠ "java/lang/invoke/VarHandle" ∧ (parseMethodDescriptor yX0_isBranch.desc).map (fun d => d.parameters.length) = some 1 := by decide +kernel

set_option maxHeartbeats 4000000 in
set_option maxRecDepth 100000 in
theorem c_X0_branchPlace (l : Launch) (g q : Int32) : Met l yX0_branchPlace wsX0_branchPlace ({ frames := 0, cells := 0, slots := 0, locals := 0 }) (PS [.int g, .int q]) (QcRead (xPl g q)) 0 0 (fun _ => False) := by
  refine Met.ofW (cc := cX0_branchPlace) (maxL := 2) (ret := some .int) (by decide) rfl ?_
  intro p e s m args below meth c s₁ B hml hv
  obtain ⟨rfl, -⟩ := hv
  have hx := B.exec
  have hb := B.bytes
  have hr := B.returns
  have hts := atoms_spec (ws := wsX0_branchPlace) B.pre
  have hown : s.vm.findClass RX0 = some m.cls := findClass_of_methodNamed B.named
  have hlocks := B.notSynchronized
  have S : CallFix p m c cX0_branchPlace 2 s ([.int g, .int q] : List Value).toArray wsX0_branchPlace RX0 := ⟨hx, hb, hml, hown, hts⟩
  have hl := lv_entry ([.int g, .int q]) (n := 2) (Nat.le_of_ble_eq_true rfl)
  rw [lg_entry_eq]
  generalize (lg_sl ([.int g, .int q]) ++ List.replicate (2 - (lg_sl ([.int g, .int q])).length) Slot.unset).toArray = ls at hl ⊢
  have hl : lv_has ls 2 [(0, .int g), (1, .int q)] := hl
  refine lv_iload_n hx hb dX0_branchPlace_0 rfl (lv_at hl 0 rfl) ?_
  refine lv_bipush (v := 17) hx hb dX0_branchPlace_1 (by decide) ?_
  refine lv_imul hx hb dX0_branchPlace_3 ?_
  refine lv_iload_n hx hb dX0_branchPlace_4 rfl (lv_at hl 1 rfl) ?_
  refine lv_iconst (v := -1) hx hb dX0_branchPlace_5 (by decide) ?_
  refine lv_icmp_ne (tgt := 14) hx hb dX0_branchPlace_6 (by decide) (fun c6 => ?_) (fun c6 => ?_)
  · refine lv_iload_n hx hb dX0_branchPlace_14 rfl (lv_at hl 1 rfl) ?_
    refine lv_iadd hx hb dX0_branchPlace_15 ?_
    have er : (g * ((17 : Int32))) + q = xPl g q := by simp [xPl, c6]
    exact W.iret (v := (g * ((17 : Int32))) + q) hx hb hr (fun t ht hW => ⟨congrArg (fun z => Outcome.returned (some (Value.int z))) er, ht⟩) (fun q h => absurd h List.not_mem_nil) dX0_branchPlace_16
  · refine lv_bipush (v := 16) hx hb dX0_branchPlace_9 (by decide) ?_
    refine lv_goto (tgt := 15) hx hb dX0_branchPlace_11 (by decide) ?_
    refine lv_iadd hx hb dX0_branchPlace_15 ?_
    have er : (g * ((17 : Int32))) + ((16 : Int32)) = xPl g q := by simp [xPl, c6]
    exact W.iret (v := (g * ((17 : Int32))) + ((16 : Int32))) hx hb hr (fun t ht hW => ⟨congrArg (fun z => Outcome.returned (some (Value.int z))) er, ht⟩) (fun q h => absurd h List.not_mem_nil) dX0_branchPlace_16
theorem hd_X0_branchPlace : yX0_branchPlace.cls ≠ "java/lang/invoke/MethodHandle" ∧ yX0_branchPlace.cls ≠ "java/lang/invoke/VarHandle" ∧ (parseMethodDescriptor yX0_branchPlace.desc).map (fun d => d.parameters.length) = some 2 := by decide +kernel

set_option maxHeartbeats 4000000 in
set_option maxRecDepth 100000 in
theorem c_X0_cutPlace (l : Launch) (g q : Int32) : Met l yX0_cutPlace wsX0_cutPlace ({ frames := 0, cells := 0, slots := 0, locals := 0 }) (PS [.int g, .int q]) (QcRead (xCp g q)) 0 0 (fun _ => False) := by
  refine Met.ofW (cc := cX0_cutPlace) (maxL := 2) (ret := some .int) (by decide) rfl ?_
  intro p e s m args below meth c s₁ B hml hv
  obtain ⟨rfl, -⟩ := hv
  have hx := B.exec
  have hb := B.bytes
  have hr := B.returns
  have hts := atoms_spec (ws := wsX0_cutPlace) B.pre
  have hown : s.vm.findClass RX0 = some m.cls := findClass_of_methodNamed B.named
  have hlocks := B.notSynchronized
  have S : CallFix p m c cX0_cutPlace 2 s ([.int g, .int q] : List Value).toArray wsX0_cutPlace RX0 := ⟨hx, hb, hml, hown, hts⟩
  have hl := lv_entry ([.int g, .int q]) (n := 2) (Nat.le_of_ble_eq_true rfl)
  rw [lg_entry_eq]
  generalize (lg_sl ([.int g, .int q]) ++ List.replicate (2 - (lg_sl ([.int g, .int q])).length) Slot.unset).toArray = ls at hl ⊢
  have hl : lv_has ls 2 [(0, .int g), (1, .int q)] := hl
  refine lv_iload_n hx hb dX0_cutPlace_0 rfl (lv_at hl 0 rfl) ?_
  refine lv_bipush (v := 16) hx hb dX0_cutPlace_1 (by decide) ?_
  refine lv_imul hx hb dX0_cutPlace_3 ?_
  refine lv_iload_n hx hb dX0_cutPlace_4 rfl (lv_at hl 1 rfl) ?_
  refine lv_iadd hx hb dX0_cutPlace_5 ?_
  exact W.iret (v := (g * ((16 : Int32))) + q) hx hb hr (fun t ht hW => ⟨rfl, ht⟩) (fun q h => absurd h List.not_mem_nil) dX0_cutPlace_6
theorem hd_X0_cutPlace : yX0_cutPlace.cls ≠ "java/lang/invoke/MethodHandle" ∧ yX0_cutPlace.cls ≠ "java/lang/invoke/VarHandle" ∧ (parseMethodDescriptor yX0_cutPlace.desc).map (fun d => d.parameters.length) = some 2 := by decide +kernel

set_option maxHeartbeats 4000000 in
set_option maxRecDepth 100000 in
theorem c_X0_hasBit (l : Launch) (b q : Int32) : Met l yX0_hasBit wsX0_hasBit ({ frames := 0, cells := 0, slots := 0, locals := 0 }) (PS [.int b, .int q]) (QcRead (bI (xBit b q))) 0 0 (fun _ => False) := by
  refine Met.ofW (cc := cX0_hasBit) (maxL := 2) (ret := some .boolean) (by decide) rfl ?_
  intro p e s m args below meth c s₁ B hml hv
  obtain ⟨rfl, -⟩ := hv
  have hx := B.exec
  have hb := B.bytes
  have hr := B.returns
  have hts := atoms_spec (ws := wsX0_hasBit) B.pre
  have hown : s.vm.findClass RX0 = some m.cls := findClass_of_methodNamed B.named
  have hlocks := B.notSynchronized
  have S : CallFix p m c cX0_hasBit 2 s ([.int b, .int q] : List Value).toArray wsX0_hasBit RX0 := ⟨hx, hb, hml, hown, hts⟩
  have hl := lv_entry ([.int b, .int q]) (n := 2) (Nat.le_of_ble_eq_true rfl)
  rw [lg_entry_eq]
  generalize (lg_sl ([.int b, .int q]) ++ List.replicate (2 - (lg_sl ([.int b, .int q])).length) Slot.unset).toArray = ls at hl ⊢
  have hl : lv_has ls 2 [(0, .int b), (1, .int q)] := hl
  refine lv_iload_n hx hb dX0_hasBit_0 rfl (lv_at hl 0 rfl) ?_
  refine lv_iload_n hx hb dX0_hasBit_1 rfl (lv_at hl 1 rfl) ?_
  refine lv_ishr hx hb dX0_hasBit_2 ?_
  refine lv_iconst (v := 1) hx hb dX0_hasBit_3 (by decide) ?_
  refine lv_iand hx hb dX0_hasBit_4 ?_
  refine lv_if_eq (tgt := 12) hx hb dX0_hasBit_5 (by decide) (fun c5 => ?_) (fun c5 => ?_)
  · refine lv_iconst (v := 0) hx hb dX0_hasBit_12 (by decide) ?_
    have er : (0 : Int32) = bI (xBit b q) := by simp [xBit, bI, c5]
    exact W.zret (v := (0 : Int32)) (ty := .boolean) hx hb hr rfl (fun t ht hW => ⟨congrArg (fun z => Outcome.returned (some (Value.int z))) er, ht⟩) (fun q h => absurd h List.not_mem_nil) dX0_hasBit_13
  · refine lv_iconst (v := 1) hx hb dX0_hasBit_8 (by decide) ?_
    refine lv_goto (tgt := 13) hx hb dX0_hasBit_9 (by decide) ?_
    have er : (1 : Int32) = bI (xBit b q) := by simp [xBit, bI, c5]
    exact W.zret (v := (1 : Int32)) (ty := .boolean) hx hb hr rfl (fun t ht hW => ⟨congrArg (fun z => Outcome.returned (some (Value.int z))) er, ht⟩) (fun q h => absurd h List.not_mem_nil) dX0_hasBit_13
theorem hd_X0_hasBit : yX0_hasBit.cls ≠ "java/lang/invoke/MethodHandle" ∧ yX0_hasBit.cls ≠ "java/lang/invoke/VarHandle" ∧ (parseMethodDescriptor yX0_hasBit.desc).map (fun d => d.parameters.length) = some 2 := by decide +kernel

set_option maxHeartbeats 4000000 in
set_option maxRecDepth 100000 in
theorem c_X0_oneIf (l : Launch) (z : Int32) : Met l yX0_oneIf wsX0_oneIf ({ frames := 0, cells := 0, slots := 0, locals := 0 }) (PS [.int z]) (QcRead (bI (!decide (z = 0)))) 0 0 (fun _ => False) := by
  refine Met.ofW (cc := cX0_oneIf) (maxL := 1) (ret := some .int) (by decide) rfl ?_
  intro p e s m args below meth c s₁ B hml hv
  obtain ⟨rfl, -⟩ := hv
  have hx := B.exec
  have hb := B.bytes
  have hr := B.returns
  have hts := atoms_spec (ws := wsX0_oneIf) B.pre
  have hown : s.vm.findClass RX0 = some m.cls := findClass_of_methodNamed B.named
  have hlocks := B.notSynchronized
  have S : CallFix p m c cX0_oneIf 1 s ([.int z] : List Value).toArray wsX0_oneIf RX0 := ⟨hx, hb, hml, hown, hts⟩
  have hl := lv_entry ([.int z]) (n := 1) (Nat.le_of_ble_eq_true rfl)
  rw [lg_entry_eq]
  generalize (lg_sl ([.int z]) ++ List.replicate (1 - (lg_sl ([.int z])).length) Slot.unset).toArray = ls at hl ⊢
  have hl : lv_has ls 1 [(0, .int z)] := hl
  refine lv_iload_n hx hb dX0_oneIf_0 rfl (lv_at hl 0 rfl) ?_
  refine lv_if_eq (tgt := 8) hx hb dX0_oneIf_1 (by decide) (fun c1 => ?_) (fun c1 => ?_)
  · refine lv_iconst (v := 0) hx hb dX0_oneIf_8 (by decide) ?_
    have er : (0 : Int32) = bI (!decide (z = 0)) := by simp [bI, c1]
    exact W.iret (v := (0 : Int32)) hx hb hr (fun t ht hW => ⟨congrArg (fun z => Outcome.returned (some (Value.int z))) er, ht⟩) (fun q h => absurd h List.not_mem_nil) dX0_oneIf_9
  · refine lv_iconst (v := 1) hx hb dX0_oneIf_4 (by decide) ?_
    refine lv_goto (tgt := 9) hx hb dX0_oneIf_5 (by decide) ?_
    have er : (1 : Int32) = bI (!decide (z = 0)) := by simp [bI, c1]
    exact W.iret (v := (1 : Int32)) hx hb hr (fun t ht hW => ⟨congrArg (fun z => Outcome.returned (some (Value.int z))) er, ht⟩) (fun q h => absurd h List.not_mem_nil) dX0_oneIf_9
theorem hd_X0_oneIf : yX0_oneIf.cls ≠ "java/lang/invoke/MethodHandle" ∧ yX0_oneIf.cls ≠ "java/lang/invoke/VarHandle" ∧ (parseMethodDescriptor yX0_oneIf.desc).map (fun d => d.parameters.length) = some 1 := by decide +kernel

set_option maxHeartbeats 4000000 in
set_option maxRecDepth 100000 in
theorem c_J6_bitCount_0f7a4 (l : Launch) (x : Int32) : Met l yJ6_bitCount_0f7a4 wsJ6_bitCount_0f7a4 ({ frames := 0, cells := 0, slots := 0, locals := 0 }) (PS [.int x]) (QcRead (bcI x)) 0 0 (fun _ => False) := by
  refine Met.ofW (cc := cJ6_bitCount_0f7a4) (maxL := 1) (ret := some .int) (by decide) rfl ?_
  intro p e s m args below meth c s₁ B hml hv
  obtain ⟨rfl, -⟩ := hv
  have hx := B.exec
  have hb := B.bytes
  have hr := B.returns
  have hts := atoms_spec (ws := wsJ6_bitCount_0f7a4) B.pre
  have hown : s.vm.findClass RJ6 = some m.cls := findClass_of_methodNamed B.named
  have hlocks := B.notSynchronized
  have S : CallFix p m c cJ6_bitCount_0f7a4 1 s ([.int x] : List Value).toArray wsJ6_bitCount_0f7a4 RJ6 := ⟨hx, hb, hml, hown, hts⟩
  have hl := lv_entry ([.int x]) (n := 1) (Nat.le_of_ble_eq_true rfl)
  rw [lg_entry_eq]
  generalize (lg_sl ([.int x]) ++ List.replicate (1 - (lg_sl ([.int x])).length) Slot.unset).toArray = ls at hl ⊢
  have hl : lv_has ls 1 [(0, .int x)] := hl
  refine lv_iload_n hx hb dJ6_bitCount_0f7a4_0 rfl (lv_at hl 0 rfl) ?_
  refine lv_iload_n hx hb dJ6_bitCount_0f7a4_1 rfl (lv_at hl 0 rfl) ?_
  refine lv_iconst (v := 1) hx hb dJ6_bitCount_0f7a4_2 (by decide) ?_
  refine lv_iushr (v := (x.toUInt32 >>> (((1 : Int32)).toUInt32 &&& Int32.toUInt32 31)).toInt32) hx hb dJ6_bitCount_0f7a4_3 rfl ?_
  refine lv_ldcw (v := 1431655765) hx hb hown (hts (.constant RJ6 265 (1431655765)) (by decide +kernel)) dJ6_bitCount_0f7a4_4 ?_
  refine lv_iand hx hb dJ6_bitCount_0f7a4_7 ?_
  refine lv_isub hx hb dJ6_bitCount_0f7a4_8 ?_
  refine lv_top (x' := bc1 x) (rfl) ?_
  refine lv_istore_n (lv' := [(0, .int (bc1 x))]) hx hb dJ6_bitCount_0f7a4_9 rfl hl (by decide) rfl (fun ls hl => ?_)
  refine lv_iload_n hx hb dJ6_bitCount_0f7a4_10 rfl (lv_at hl 0 rfl) ?_
  refine lv_ldcw (v := 858993459) hx hb hown (hts (.constant RJ6 266 (858993459)) (by decide +kernel)) dJ6_bitCount_0f7a4_11 ?_
  refine lv_iand hx hb dJ6_bitCount_0f7a4_14 ?_
  refine lv_iload_n hx hb dJ6_bitCount_0f7a4_15 rfl (lv_at hl 0 rfl) ?_
  refine lv_iconst (v := 2) hx hb dJ6_bitCount_0f7a4_16 (by decide) ?_
  refine lv_iushr (v := ((bc1 x).toUInt32 >>> (((2 : Int32)).toUInt32 &&& Int32.toUInt32 31)).toInt32) hx hb dJ6_bitCount_0f7a4_17 rfl ?_
  refine lv_ldcw (v := 858993459) hx hb hown (hts (.constant RJ6 266 (858993459)) (by decide +kernel)) dJ6_bitCount_0f7a4_18 ?_
  refine lv_iand hx hb dJ6_bitCount_0f7a4_21 ?_
  refine lv_iadd hx hb dJ6_bitCount_0f7a4_22 ?_
  refine lv_top (x' := bc2 (bc1 x)) (rfl) ?_
  refine lv_istore_n (lv' := [(0, .int (bc2 (bc1 x)))]) hx hb dJ6_bitCount_0f7a4_23 rfl hl (by decide) rfl (fun ls hl => ?_)
  refine lv_iload_n hx hb dJ6_bitCount_0f7a4_24 rfl (lv_at hl 0 rfl) ?_
  refine lv_iload_n hx hb dJ6_bitCount_0f7a4_25 rfl (lv_at hl 0 rfl) ?_
  refine lv_iconst (v := 4) hx hb dJ6_bitCount_0f7a4_26 (by decide) ?_
  refine lv_iushr (v := ((bc2 (bc1 x)).toUInt32 >>> (((4 : Int32)).toUInt32 &&& Int32.toUInt32 31)).toInt32) hx hb dJ6_bitCount_0f7a4_27 rfl ?_
  refine lv_iadd hx hb dJ6_bitCount_0f7a4_28 ?_
  refine lv_ldcw (v := 252645135) hx hb hown (hts (.constant RJ6 267 (252645135)) (by decide +kernel)) dJ6_bitCount_0f7a4_29 ?_
  refine lv_iand hx hb dJ6_bitCount_0f7a4_32 ?_
  refine lv_top (x' := bc3 (bc2 (bc1 x))) (rfl) ?_
  refine lv_istore_n (lv' := [(0, .int (bc3 (bc2 (bc1 x))))]) hx hb dJ6_bitCount_0f7a4_33 rfl hl (by decide) rfl (fun ls hl => ?_)
  refine lv_iload_n hx hb dJ6_bitCount_0f7a4_34 rfl (lv_at hl 0 rfl) ?_
  refine lv_iload_n hx hb dJ6_bitCount_0f7a4_35 rfl (lv_at hl 0 rfl) ?_
  refine lv_bipush (v := 8) hx hb dJ6_bitCount_0f7a4_36 (by decide) ?_
  refine lv_iushr (v := ((bc3 (bc2 (bc1 x))).toUInt32 >>> (((8 : Int32)).toUInt32 &&& Int32.toUInt32 31)).toInt32) hx hb dJ6_bitCount_0f7a4_38 rfl ?_
  refine lv_iadd hx hb dJ6_bitCount_0f7a4_39 ?_
  refine lv_top (x' := bc4 (bc3 (bc2 (bc1 x)))) (rfl) ?_
  refine lv_istore_n (lv' := [(0, .int (bc4 (bc3 (bc2 (bc1 x)))))]) hx hb dJ6_bitCount_0f7a4_40 rfl hl (by decide) rfl (fun ls hl => ?_)
  refine lv_iload_n hx hb dJ6_bitCount_0f7a4_41 rfl (lv_at hl 0 rfl) ?_
  refine lv_iload_n hx hb dJ6_bitCount_0f7a4_42 rfl (lv_at hl 0 rfl) ?_
  refine lv_bipush (v := 16) hx hb dJ6_bitCount_0f7a4_43 (by decide) ?_
  refine lv_iushr (v := ((bc4 (bc3 (bc2 (bc1 x)))).toUInt32 >>> (((16 : Int32)).toUInt32 &&& Int32.toUInt32 31)).toInt32) hx hb dJ6_bitCount_0f7a4_45 rfl ?_
  refine lv_iadd hx hb dJ6_bitCount_0f7a4_46 ?_
  refine lv_top (x' := bc5 (bc4 (bc3 (bc2 (bc1 x))))) (rfl) ?_
  refine lv_istore_n (lv' := [(0, .int (bc5 (bc4 (bc3 (bc2 (bc1 x))))))]) hx hb dJ6_bitCount_0f7a4_47 rfl hl (by decide) rfl (fun ls hl => ?_)
  refine lv_iload_n hx hb dJ6_bitCount_0f7a4_48 rfl (lv_at hl 0 rfl) ?_
  refine lv_bipush (v := 63) hx hb dJ6_bitCount_0f7a4_49 (by decide) ?_
  refine lv_iand hx hb dJ6_bitCount_0f7a4_51 ?_
  exact W.iret (v := (bc5 (bc4 (bc3 (bc2 (bc1 x))))) &&& ((63 : Int32))) hx hb hr (fun t ht hW => ⟨rfl, ht⟩) (fun q h => absurd h List.not_mem_nil) dJ6_bitCount_0f7a4_52
theorem hd_J6_bitCount_0f7a4 : yJ6_bitCount_0f7a4.cls ≠ "java/lang/invoke/MethodHandle" ∧ yJ6_bitCount_0f7a4.cls ≠ "java/lang/invoke/VarHandle" ∧ (parseMethodDescriptor yJ6_bitCount_0f7a4.desc).map (fun d => d.parameters.length) = some 1 := by decide +kernel

theorem iwsX0_stands : ∀ w ∈ u_ws RX0 TX0 7, w ∈ wsX0_stands := fun _ h => List.mem_cons_of_mem _ (List.mem_append_right _ h)
set_option maxHeartbeats 4000000 in
set_option maxRecDepth 100000 in
theorem c_X0_stands (l : Launch) (dC : Nat → ClassId) (dI : Nat → Nat → Nat) (h a1 a2 a3 a4 a5 : Nat) (cA : ClassId) (me tm : Int32) (fN fM fJ fT fC : Nat → Int32) (t : Int32) : Met l yX0_stands wsX0_stands ({ frames := 0, cells := 0, slots := 0, locals := 0 }) (PR [.ref h, .int t] dC dI cA (wX h a1 a2 a3 a4 a5 cA me tm fN fM fJ fT fC)) (QcRead (bI (xSt tm t))) 0 0 (fun _ => False) := by
  refine Met.ofW (cc := cX0_stands) (maxL := 2) (ret := some .boolean) (by decide) rfl ?_
  intro p e s m args below meth c s₁ B hml hv
  obtain ⟨rfl, hP, hK⟩ := hv
  have hx := B.exec
  have hb := B.bytes
  have hr := B.returns
  have hts := atoms_spec (ws := wsX0_stands) B.pre
  have hown : s.vm.findClass RX0 = some m.cls := findClass_of_methodNamed B.named
  have hlocks := B.notSynchronized
  have S : CallFix p m c cX0_stands 2 s ([.ref h, .int t] : List Value).toArray wsX0_stands RX0 := ⟨hx, hb, hml, hown, hts⟩
  have hl := lv_entry ([.ref h, .int t]) (n := 2) (Nat.le_of_ble_eq_true rfl)
  rw [lg_entry_eq]
  generalize (lg_sl ([.ref h, .int t]) ++ List.replicate (2 - (lg_sl ([.ref h, .int t])).length) Slot.unset).toArray = ls at hl ⊢
  have hl : lv_has ls 2 [(0, .ref h), (1, .int t)] := hl
  refine lv_aload_n hx hb dX0_stands_0 rfl (lv_at hl 0 rfl) ?_
  refine va_get (D := (dC, dI)) (ci := 0) (v := .int tm) (C := RX0) (T := TX0) (N := 7) hx hb hts iwsX0_stands hown hK hP 0 rfl rfl 1 (by decide) (hts (.fieldLink RX0 38 "BranchTimes" "time" "I") (by decide +kernel)) (fun _ h9 => h9) rfl dX0_stands_1 ?_
  refine lv_iload_n hx hb dX0_stands_4 rfl (lv_at hl 1 rfl) ?_
  refine lv_icmp_ge (tgt := 12) hx hb dX0_stands_5 (by decide) (fun c5 => ?_) (fun c5 => ?_)
  · refine lv_iconst (v := 0) hx hb dX0_stands_12 (by decide) ?_
    have er : (0 : Int32) = bI (xSt tm t) := by simp [xSt, bI, c5]
    exact W.zret (v := (0 : Int32)) (ty := .boolean) hx hb hr rfl (fun t ht hW => ⟨congrArg (fun z => Outcome.returned (some (Value.int z))) er, ht⟩) (fun q h => absurd h List.not_mem_nil) dX0_stands_13
  · refine lv_iconst (v := 1) hx hb dX0_stands_8 (by decide) ?_
    refine lv_goto (tgt := 13) hx hb dX0_stands_9 (by decide) ?_
    have er : (1 : Int32) = bI (xSt tm t) := by simp [xSt, bI, c5]
    exact W.zret (v := (1 : Int32)) (ty := .boolean) hx hb hr rfl (fun t ht hW => ⟨congrArg (fun z => Outcome.returned (some (Value.int z))) er, ht⟩) (fun q h => absurd h List.not_mem_nil) dX0_stands_13
theorem hd_X0_stands : yX0_stands.cls = RX0 ∧ yX0_stands.cls ≠ "java/lang/invoke/MethodHandle" ∧ yX0_stands.cls ≠ "java/lang/invoke/VarHandle" ∧ (parseMethodDescriptor yX0_stands.desc).map (fun d => d.parameters.length) = some 1 := by decide +kernel

theorem iwsX0_tillOrZero : ∀ w ∈ u_ws RX0 TX0 7, w ∈ wsX0_tillOrZero := fun _ h => List.mem_cons_of_mem _ (List.mem_append_right _ h)
set_option maxHeartbeats 4000000 in
set_option maxRecDepth 100000 in
theorem c_X0_tillOrZero (l : Launch) (dC : Nat → ClassId) (dI : Nat → Nat → Nat) (h a1 a2 a3 a4 a5 : Nat) (cA : ClassId) (me tm : Int32) (fN fM fJ fT fC : Nat → Int32) (t : Int32) : Met l yX0_tillOrZero wsX0_tillOrZero ({ frames := 1, cells := 0, slots := 0, locals := 21 }) (PR [.ref h, .int t] dC dI cA (wX h a1 a2 a3 a4 a5 cA me tm fN fM fJ fT fC)) (QcRead (xTz tm t)) 0 0 (fun _ => False) := by
  refine Met.ofW (cc := cX0_tillOrZero) (maxL := 2) (ret := some .int) (by decide) rfl ?_
  intro p e s m args below meth c s₁ B hml hv
  obtain ⟨rfl, hP, hK⟩ := hv
  have hx := B.exec
  have hb := B.bytes
  have hr := B.returns
  have hts := atoms_spec (ws := wsX0_tillOrZero) B.pre
  have hown : s.vm.findClass RX0 = some m.cls := findClass_of_methodNamed B.named
  have hlocks := B.notSynchronized
  have S : CallFix p m c cX0_tillOrZero 2 s ([.ref h, .int t] : List Value).toArray wsX0_tillOrZero RX0 := ⟨hx, hb, hml, hown, hts⟩
  have hl := lv_entry ([.ref h, .int t]) (n := 2) (Nat.le_of_ble_eq_true rfl)
  rw [lg_entry_eq]
  generalize (lg_sl ([.ref h, .int t]) ++ List.replicate (2 - (lg_sl ([.ref h, .int t])).length) Slot.unset).toArray = ls at hl ⊢
  have hl : lv_has ls 2 [(0, .ref h), (1, .int t)] := hl
  refine lv_aload_n hx hb dX0_tillOrZero_0 rfl (lv_at hl 0 rfl) ?_
  refine lv_iload_n hx hb dX0_tillOrZero_1 rfl (lv_at hl 1 rfl) ?_
  refine rd_V (As := [.int t]) (rest := []) (ci := 0) (qc := (RX0, TX0, 7)) S (c_X0_stands l dC dI h a1 a2 a3 a4 a5 cA me tm fN fM fJ fT fC t) gX0_tillOrZero_X0_stands rfl ⟨rfl, rfl⟩ hd_X0_stands ⟨Nat.le_of_ble_eq_true rfl, Nat.le_of_ble_eq_true rfl⟩ hK hP rfl rfl rfl hl.1 rfl (Nat.le_of_ble_eq_true rfl) dX0_tillOrZero_2 ⟨Nat.le_of_ble_eq_true rfl, Nat.le_of_ble_eq_true rfl⟩ ?_
  refine lv_if_eq (tgt := 12) hx hb dX0_tillOrZero_5 (by decide) (fun c5 => ?_) (fun c5 => ?_)
  · have b5 := bI_z c5
    refine lv_iconst (v := 0) hx hb dX0_tillOrZero_12 (by decide) ?_
    have er : (0 : Int32) = xTz tm t := by simp [xTz, b5]
    exact W.iret (v := (0 : Int32)) hx hb hr (fun t ht hW => ⟨congrArg (fun z => Outcome.returned (some (Value.int z))) er, ht⟩) (fun q h => absurd h List.not_mem_nil) dX0_tillOrZero_13
  · have b5 := bI_nz c5
    refine lv_iload_n hx hb dX0_tillOrZero_8 rfl (lv_at hl 1 rfl) ?_
    refine lv_goto (tgt := 13) hx hb dX0_tillOrZero_9 (by decide) ?_
    have er : t = xTz tm t := by simp [xTz, b5]
    exact W.iret (v := t) hx hb hr (fun t ht hW => ⟨congrArg (fun z => Outcome.returned (some (Value.int z))) er, ht⟩) (fun q h => absurd h List.not_mem_nil) dX0_tillOrZero_13
theorem hd_X0_tillOrZero : yX0_tillOrZero.cls = RX0 ∧ yX0_tillOrZero.cls ≠ "java/lang/invoke/MethodHandle" ∧ yX0_tillOrZero.cls ≠ "java/lang/invoke/VarHandle" ∧ (parseMethodDescriptor yX0_tillOrZero.desc).map (fun d => d.parameters.length) = some 1 := by decide +kernel

theorem iwsX0_neighbourBits : ∀ w ∈ u_ws RX0 TX0 7, w ∈ wsX0_neighbourBits := fun _ h => List.mem_cons_of_mem _ (List.mem_append_right _ h)
set_option maxHeartbeats 4000000 in
set_option maxRecDepth 100000 in
theorem lp_X0_neighbourBits_4 {p : Program} {e : Env} {s : State} {m : MethodId} {args : Array Value} {below : List Frame} {meth : Method} {c : Code} {cells slots : Nat} {Q : State → Prop} {H : Heap} {locs : List Loc} (l : Launch) (dC : Nat → ClassId) (dI : Nat → Nat → Nat) (h a1 a2 a3 a4 a5 : Nat) (cA : ClassId) (me tm : Int32) (fN fM fJ fT fC : Nat → Int32) (S : CallFix p m c cX0_neighbourBits 3 s args wsX0_neighbourBits RX0) (hK : va_K (dC, dI) vwCl [(cA, .int)] s) (hP : va_P (dC, dI) vwCl (wX h a1 a2 a3 a4 a5 cA me tm fN fM fJ fT fC) H) (hcs : cells + 0 ≤ 0 ∧ slots + 0 ≤ 0) (k : ∀ (ls : Array Slot), lv_has ls 3 [(0, .ref h), (1, .int (bitsI (xNbq tm fN) 10)), (2, .int (nI 10))] → W p l e ({ frames := 1, cells := 0, slots := 0, locals := 21 }) s m args below meth c H locs cells slots Q (F0 m 35 ls [])) : ∀ (n i : Nat), i + n = 10 → ∀ (ls : Array Slot), lv_has ls 3 [(0, .ref h), (1, .int (bitsI (xNbq tm fN) i)), (2, .int (nI i))] → W p l e ({ frames := 1, cells := 0, slots := 0, locals := 21 }) s m args below meth c H locs cells slots Q (F0 m 4 ls []) := by
  obtain ⟨hx, hb, hml, hown, hts⟩ := id S
  intro n
  induction n with
  | zero =>
    intro i hi ls hl
    obtain rfl : i = 10 := by omega
    refine lv_iload_n hx hb dX0_neighbourBits_4 rfl (lv_at hl 2 rfl) ?_
    refine lv_bipush (v := 10) hx hb dX0_neighbourBits_5 (by decide) ?_
    refine lv_icmp_ge (tgt := 35) hx hb dX0_neighbourBits_7 (by decide) (fun c7 => ?_) (fun c7 => ?_)
    · exact k ls (lv_sub hl [0, 1, 2] rfl)
    · exact absurd c7 (by decide)
  | succ n ih =>
    intro i hi ls hl
    have hlt : i < 10 := by omega
    have hcl : (nI i).toNatClampNeg = i := nI_clamp (by omega)
    refine lv_iload_n hx hb dX0_neighbourBits_4 rfl (lv_at hl 2 rfl) ?_
    refine lv_bipush (v := 10) hx hb dX0_neighbourBits_5 (by decide) ?_
    refine lv_icmp_ge (tgt := 35) hx hb dX0_neighbourBits_7 (by decide) (fun c7 => ?_) (fun c7 => ?_)
    · exact absurd c7 (nI_ge hlt (by decide))
    · refine lv_aload_n hx hb dX0_neighbourBits_10 rfl (lv_at hl 0 rfl) ?_
      refine lv_aload_n hx hb dX0_neighbourBits_11 rfl (lv_at hl 0 rfl) ?_
      refine va_get (D := (dC, dI)) (ci := 0) (v := .ref a1) (C := RX0) (T := TX0) (N := 7) hx hb hts iwsX0_neighbourBits hown hK hP 0 rfl rfl 2 (by decide) (hts (.fieldLink RX0 9 "BranchTimes" "neighbourTill" "[I") (by decide +kernel)) (fun _ h9 => h9) rfl dX0_neighbourBits_12 ?_
      refine lv_iload_n hx hb dX0_neighbourBits_15 rfl (lv_at hl 2 rfl) ?_
      refine va_iald (D := (dC, dI)) hx hb hK hP 1 0 rfl rfl (vp_in_nI hlt (by decide)) dX0_neighbourBits_16 ?_
      refine lv_top (x' := fN i) (congrArg fN hcl) ?_
      refine rd_V (As := [.int (fN i)]) (rest := []) (ci := 0) (qc := (RX0, TX0, 7)) S (c_X0_stands l dC dI h a1 a2 a3 a4 a5 cA me tm fN fM fJ fT fC (fN i)) gX0_neighbourBits_X0_stands rfl ⟨rfl, rfl⟩ hd_X0_stands ⟨Nat.le_of_ble_eq_true rfl, Nat.le_of_ble_eq_true rfl⟩ hK hP rfl rfl rfl hl.1 rfl (Nat.le_of_ble_eq_true rfl) dX0_neighbourBits_17 hcs ?_
      refine lv_if_eq (tgt := 29) hx hb dX0_neighbourBits_20 (by decide) (fun c20 => ?_) (fun c20 => ?_)
      · have b20 := bI_z c20
        refine lv_iinc (v := nI (i + 1)) (lv' := [(2, .int (nI (i + 1))), (0, .ref h), (1, .int (bitsI (xNbq tm fN) i))]) hx hb dX0_neighbourBits_29 hl (k := 2) rfl (nI_1 _) (by decide) rfl (fun ls hl => ?_)
        refine lv_goto (tgt := 4) hx hb dX0_neighbourBits_32 (by decide) ?_
        exact ih (i + 1) (by omega) ls (by rw [bitsI_f b20]; exact lv_sub hl [1, 2, 0] rfl)
      · have b20 := bI_nz c20
        refine lv_iload_n hx hb dX0_neighbourBits_23 rfl (lv_at hl 1 rfl) ?_
        refine lv_iconst (v := 1) hx hb dX0_neighbourBits_24 (by decide) ?_
        refine lv_iload_n hx hb dX0_neighbourBits_25 rfl (lv_at hl 2 rfl) ?_
        refine lv_ishl hx hb dX0_neighbourBits_26 ?_
        refine lv_ior hx hb dX0_neighbourBits_27 ?_
        refine lv_istore_n (lv' := [(1, .int ((bitsI (xNbq tm fN) i) ||| (((1 : Int32)) <<< ((nI i) &&& 31)))), (0, .ref h), (2, .int (nI i))]) hx hb dX0_neighbourBits_28 rfl hl (by decide) rfl (fun ls hl => ?_)
        refine lv_iinc (v := nI (i + 1)) (lv' := [(2, .int (nI (i + 1))), (1, .int ((bitsI (xNbq tm fN) i) ||| (((1 : Int32)) <<< ((nI i) &&& 31)))), (0, .ref h)]) hx hb dX0_neighbourBits_29 hl (k := 2) rfl (nI_1 _) (by decide) rfl (fun ls hl => ?_)
        refine lv_goto (tgt := 4) hx hb dX0_neighbourBits_32 (by decide) ?_
        exact ih (i + 1) (by omega) ls (by rw [bitsI_t b20]; exact lv_sub hl [2, 1, 0] rfl)
set_option maxHeartbeats 4000000 in
set_option maxRecDepth 100000 in
theorem c_X0_neighbourBits (l : Launch) (dC : Nat → ClassId) (dI : Nat → Nat → Nat) (h a1 a2 a3 a4 a5 : Nat) (cA : ClassId) (me tm : Int32) (fN fM fJ fT fC : Nat → Int32) : Met l yX0_neighbourBits wsX0_neighbourBits ({ frames := 1, cells := 0, slots := 0, locals := 21 }) (PR [.ref h] dC dI cA (wX h a1 a2 a3 a4 a5 cA me tm fN fM fJ fT fC)) (QcRead (xNb tm fN)) 0 0 (fun _ => False) := by
  refine Met.ofW (cc := cX0_neighbourBits) (maxL := 3) (ret := some .int) (by decide) rfl ?_
  intro p e s m args below meth c s₁ B hml hv
  obtain ⟨rfl, hP, hK⟩ := hv
  have hx := B.exec
  have hb := B.bytes
  have hr := B.returns
  have hts := atoms_spec (ws := wsX0_neighbourBits) B.pre
  have hown : s.vm.findClass RX0 = some m.cls := findClass_of_methodNamed B.named
  have hlocks := B.notSynchronized
  have S : CallFix p m c cX0_neighbourBits 3 s ([.ref h] : List Value).toArray wsX0_neighbourBits RX0 := ⟨hx, hb, hml, hown, hts⟩
  have hl := lv_entry ([.ref h]) (n := 3) (Nat.le_of_ble_eq_true rfl)
  rw [lg_entry_eq]
  generalize (lg_sl ([.ref h]) ++ List.replicate (3 - (lg_sl ([.ref h])).length) Slot.unset).toArray = ls at hl ⊢
  have hl : lv_has ls 3 [(0, .ref h)] := hl
  refine lv_iconst (v := 0) hx hb dX0_neighbourBits_0 (by decide) ?_
  refine lv_istore_n (lv' := [(1, .int ((0 : Int32))), (0, .ref h)]) hx hb dX0_neighbourBits_1 rfl hl (by decide) rfl (fun ls hl => ?_)
  refine lv_iconst (v := 0) hx hb dX0_neighbourBits_2 (by decide) ?_
  refine lv_istore_n (lv' := [(2, .int ((0 : Int32))), (1, .int ((0 : Int32))), (0, .ref h)]) hx hb dX0_neighbourBits_3 rfl hl (by decide) rfl (fun ls hl => ?_)
  refine lp_X0_neighbourBits_4 l dC dI h a1 a2 a3 a4 a5 cA me tm fN fM fJ fT fC S hK hP ⟨Nat.le_of_ble_eq_true rfl, Nat.le_of_ble_eq_true rfl⟩ (fun ls hl => ?_) 10 0 rfl ls (lv_sub hl [2, 1, 0] rfl)
  refine lv_iload_n hx hb dX0_neighbourBits_35 rfl (lv_at hl 1 rfl) ?_
  exact W.iret (v := bitsI (xNbq tm fN) 10) hx hb hr (fun t ht hW => ⟨rfl, ht⟩) (fun q h => absurd h List.not_mem_nil) dX0_neighbourBits_36
theorem hd_X0_neighbourBits : yX0_neighbourBits.cls = RX0 ∧ yX0_neighbourBits.cls ≠ "java/lang/invoke/MethodHandle" ∧ yX0_neighbourBits.cls ≠ "java/lang/invoke/VarHandle" ∧ (parseMethodDescriptor yX0_neighbourBits.desc).map (fun d => d.parameters.length) = some 0 := by decide +kernel
