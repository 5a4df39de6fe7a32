set_option maxHeartbeats 4000000 in
set_option maxRecDepth 100000 in
theorem c_X1_isGroup (l : Launch) (g : Int32) : Met l yX1_isGroup wsX1_isGroup ({ frames := 0, cells := 0, slots := 0, locals := 0 }) (PS [.int g]) (QcRead (bI (xG g))) 0 0 (fun _ => False) := by
  refine Met.ofW (cc := cX1_isGroup) (maxL := 1) (ret := some .boolean) (by decide) rfl ?_
  intro p e s m args below meth c s₁ B hml hv
  obtain ⟨rfl, -⟩ := hv
  have hx := B.exec
  have hb := B.bytes
  have hr := B.returns
  have hts := atoms_spec (ws := wsX1_isGroup) B.pre
  have hown : s.vm.findClass RX1 = some m.cls := findClass_of_methodNamed B.named
  have hlocks := B.notSynchronized
  have S : CallFix p m c cX1_isGroup 1 s ([.int g] : List Value).toArray wsX1_isGroup RX1 := ⟨hx, hb, hml, hown, hts⟩
  have hl := lv_entry ([.int g]) (n := 1) (Nat.le_of_ble_eq_true rfl)
  rw [lg_entry_eq]
  generalize (lg_sl ([.int g]) ++ List.replicate (1 - (lg_sl ([.int g])).length) Slot.unset).toArray = ls at hl ⊢
  have hl : lv_has ls 1 [(0, .int g)] := hl
  refine lv_iload_n hx hb dX1_isGroup_0 rfl (lv_at hl 0 rfl) ?_
  refine lv_if_lt (tgt := 14) hx hb dX1_isGroup_1 (by decide) (fun c1 => ?_) (fun c1 => ?_)
  · refine lv_iconst (v := 0) hx hb dX1_isGroup_14 (by decide) ?_
    have er : (0 : Int32) = bI (xG g) := by simp [xG, bI, c1]
    exact W.zret (v := (0 : Int32)) (ty := .boolean) hx hb hr rfl (fun t ht hW => ⟨congrArg (fun z => Outcome.returned (some (Value.int z))) er, ht⟩) (fun q h => absurd h List.not_mem_nil) dX1_isGroup_15
  · refine lv_iload_n hx hb dX1_isGroup_4 rfl (lv_at hl 0 rfl) ?_
    refine lv_bipush (v := 8) hx hb dX1_isGroup_5 (by decide) ?_
    refine lv_icmp_ge (tgt := 14) hx hb dX1_isGroup_7 (by decide) (fun c7 => ?_) (fun c7 => ?_)
    · refine lv_iconst (v := 0) hx hb dX1_isGroup_14 (by decide) ?_
      have er : (0 : Int32) = bI (xG g) := by simp [xG, bI, c1, c7]
      exact W.zret (v := (0 : Int32)) (ty := .boolean) hx hb hr rfl (fun t ht hW => ⟨congrArg (fun z => Outcome.returned (some (Value.int z))) er, ht⟩) (fun q h => absurd h List.not_mem_nil) dX1_isGroup_15
    · refine lv_iconst (v := 1) hx hb dX1_isGroup_10 (by decide) ?_
      refine lv_goto (tgt := 15) hx hb dX1_isGroup_11 (by decide) ?_
      have er : (1 : Int32) = bI (xG g) := by simp [xG, bI, c1, c7]
      exact W.zret (v := (1 : Int32)) (ty := .boolean) hx hb hr rfl (fun t ht hW => ⟨congrArg (fun z => Outcome.returned (some (Value.int z))) er, ht⟩) (fun q h => absurd h List.not_mem_nil) dX1_isGroup_15
theorem hd_X1_isGroup : yX1_isGroup.cls ≠ "java/lang/invoke/MethodHandle" ∧ yX1_isGroup.cls ≠ "java/lang/invoke/VarHandle" ∧ (parseMethodDescriptor yX1_isGroup.desc).map (fun d => d.parameters.length) = some 1 := by decide +kernel

set_option maxHeartbeats 4000000 in
set_option maxRecDepth 100000 in
theorem c_X1_isBranch (l : Launch) (g q : Int32) : Met l yX1_isBranch wsX1_isBranch ({ frames := 1, cells := 0, slots := 0, locals := 20 }) (PS [.int g, .int q]) (QcRead (bI (mBr g q))) 0 0 (fun _ => False) := by
  refine Met.ofW (cc := cX1_isBranch) (maxL := 2) (ret := some .boolean) (by decide) rfl ?_
  intro p e s m args below meth c s₁ B hml hv
  obtain ⟨rfl, -⟩ := hv
  have hx := B.exec
  have hb := B.bytes
  have hr := B.returns
  have hts := atoms_spec (ws := wsX1_isBranch) B.pre
  have hown : s.vm.findClass RX1 = some m.cls := findClass_of_methodNamed B.named
  have hlocks := B.notSynchronized
  have S : CallFix p m c cX1_isBranch 2 s ([.int g, .int q] : List Value).toArray wsX1_isBranch RX1 := ⟨hx, hb, hml, hown, hts⟩
  have hl := lv_entry ([.int g, .int q]) (n := 2) (Nat.le_of_ble_eq_true rfl)
  rw [lg_entry_eq]
  generalize (lg_sl ([.int g, .int q]) ++ List.replicate (2 - (lg_sl ([.int g, .int q])).length) Slot.unset).toArray = ls at hl ⊢
  have hl : lv_has ls 2 [(0, .int g), (1, .int q)] := hl
  refine lv_iload_n hx hb dX1_isBranch_0 rfl (lv_at hl 0 rfl) ?_
  refine rd_S (As := [.int g]) (rest := []) S (c_X1_isGroup l g) gX1_isBranch_X1_isGroup rfl ⟨rfl, rfl⟩ hd_X1_isGroup ⟨Nat.le_of_ble_eq_true rfl, Nat.le_of_ble_eq_true rfl⟩ rfl hl.1 rfl (Nat.le_of_ble_eq_true rfl) dX1_isBranch_1 ⟨Nat.le_of_ble_eq_true rfl, Nat.le_of_ble_eq_true rfl⟩ ?_
  refine lv_if_eq (tgt := 22) hx hb dX1_isBranch_4 (by decide) (fun c4 => ?_) (fun c4 => ?_)
  · have b4 := bI_z c4
    refine lv_iconst (v := 0) hx hb dX1_isBranch_22 (by decide) ?_
    have er : (0 : Int32) = bI (mBr g q) := by simp [mBr, bI, b4]
    exact W.zret (v := (0 : Int32)) (ty := .boolean) hx hb hr rfl (fun t ht hW => ⟨congrArg (fun z => Outcome.returned (some (Value.int z))) er, ht⟩) (fun q h => absurd h List.not_mem_nil) dX1_isBranch_23
  · have b4 := bI_nz c4
    refine lv_iload_n hx hb dX1_isBranch_7 rfl (lv_at hl 1 rfl) ?_
    refine lv_iconst (v := -1) hx hb dX1_isBranch_8 (by decide) ?_
    refine lv_icmp_lt (tgt := 22) hx hb dX1_isBranch_9 (by decide) (fun c9 => ?_) (fun c9 => ?_)
    · refine lv_iconst (v := 0) hx hb dX1_isBranch_22 (by decide) ?_
      have er : (0 : Int32) = bI (mBr g q) := by simp [mBr, bI, b4, c9]
      exact W.zret (v := (0 : Int32)) (ty := .boolean) hx hb hr rfl (fun t ht hW => ⟨congrArg (fun z => Outcome.returned (some (Value.int z))) er, ht⟩) (fun q h => absurd h List.not_mem_nil) dX1_isBranch_23
    · refine lv_iload_n hx hb dX1_isBranch_12 rfl (lv_at hl 1 rfl) ?_
      refine lv_bipush (v := 16) hx hb dX1_isBranch_13 (by decide) ?_
      refine lv_icmp_ge (tgt := 22) hx hb dX1_isBranch_15 (by decide) (fun c15 => ?_) (fun c15 => ?_)
      · refine lv_iconst (v := 0) hx hb dX1_isBranch_22 (by decide) ?_
        have er : (0 : Int32) = bI (mBr g q) := by simp [mBr, bI, b4, c9, c15]
        exact W.zret (v := (0 : Int32)) (ty := .boolean) hx hb hr rfl (fun t ht hW => ⟨congrArg (fun z => Outcome.returned (some (Value.int z))) er, ht⟩) (fun q h => absurd h List.not_mem_nil) dX1_isBranch_23
      · refine lv_iconst (v := 1) hx hb dX1_isBranch_18 (by decide) ?_
        refine lv_goto (tgt := 23) hx hb dX1_isBranch_19 (by decide) ?_
        have er : (1 : Int32) = bI (mBr g q) := by simp [mBr, bI, b4, c9, c15]
        exact W.zret (v := (1 : Int32)) (ty := .boolean) hx hb hr rfl (fun t ht hW => ⟨congrArg (fun z => Outcome.returned (some (Value.int z))) er, ht⟩) (fun q h => absurd h List.not_mem_nil) dX1_isBranch_23
theorem hd_X1_isBranch : yX1_isBranch.cls ≠ "java/lang/invoke/MethodHandle" ∧ yX1_isBranch.cls ≠ "java/lang/invoke/VarHandle" ∧ (parseMethodDescriptor yX1_isBranch.desc).map (fun d => d.parameters.length) = some 2 := by decide +kernel

theorem iwsX1_neighbours : ∀ w ∈ u_ws RX1 TX1 8, w ∈ wsX1_neighbours := fun _ h => List.mem_cons_of_mem _ (List.mem_append_right _ h)
set_option maxHeartbeats 4000000 in
set_option maxRecDepth 100000 in
theorem lp_X1_neighbours_4 {p : Program} {e : Env} {s : State} {m : MethodId} {args : Array Value} {below : List Frame} {meth : Method} {c : Code} {cells slots : Nat} {Q : State → Prop} {H : Heap} {locs : List Loc} (l : Launch) (dC : Nat → ClassId) (dI : Nat → Nat → Nat) (h a1 a2 a3 a4 a5 a6 : Nat) (cA : ClassId) (me tm : Int32) (hA rA lT jA pT cF : Nat → Int32) (S : CallFix p m c cX1_neighbours 3 s args wsX1_neighbours RX1) (hK : va_K (dC, dI) vwCl [(cA, .int)] s) (hP : va_P (dC, dI) vwCl (wM h a1 a2 a3 a4 a5 a6 cA me tm hA rA lT jA pT cF) H) (hcs : cells + 0 ≤ 0 ∧ slots + 0 ≤ 0) (k : ∀ (ls : Array Slot), lv_has ls 3 [(0, .ref h), (1, .int (bitsI (mNbq tm hA) 10)), (2, .int (nI 10))] → W p l e ({ frames := 0, cells := 0, slots := 0, locals := 0 }) s m args below meth c H locs cells slots Q (F0 m 48 ls [])) : ∀ (n i : Nat), i + n = 10 → ∀ (ls : Array Slot), lv_has ls 3 [(0, .ref h), (1, .int (bitsI (mNbq tm hA) i)), (2, .int (nI i))] → W p l e ({ frames := 0, cells := 0, slots := 0, locals := 0 }) s m args below meth c H locs cells slots Q (F0 m 4 ls []) := by
  obtain ⟨hx, hb, hml, hown, hts⟩ := id S
  intro n
  induction n with
  | zero =>
    intro i hi ls hl
    obtain rfl : i = 10 := by omega
    refine lv_iload_n hx hb dX1_neighbours_4 rfl (lv_at hl 2 rfl) ?_
    refine lv_bipush (v := 10) hx hb dX1_neighbours_5 (by decide) ?_
    refine lv_icmp_ge (tgt := 48) hx hb dX1_neighbours_7 (by decide) (fun c7 => ?_) (fun c7 => ?_)
    · exact k ls (lv_sub hl [0, 1, 2] rfl)
    · exact absurd c7 (by decide)
  | succ n ih =>
    intro i hi ls hl
    have hlt : i < 10 := by omega
    have hcl : (nI i).toNatClampNeg = i := nI_clamp (by omega)
    refine lv_iload_n hx hb dX1_neighbours_4 rfl (lv_at hl 2 rfl) ?_
    refine lv_bipush (v := 10) hx hb dX1_neighbours_5 (by decide) ?_
    refine lv_icmp_ge (tgt := 48) hx hb dX1_neighbours_7 (by decide) (fun c7 => ?_) (fun c7 => ?_)
    · exact absurd c7 (nI_ge hlt (by decide))
    · refine lv_aload_n hx hb dX1_neighbours_10 rfl (lv_at hl 0 rfl) ?_
      refine va_get (D := (dC, dI)) (ci := 1) (v := .ref a1) (C := RX1) (T := TX1) (N := 8) hx hb hts iwsX1_neighbours hown hK hP 0 rfl rfl 2 (by decide) (hts (.fieldLink RX1 7 "BranchTimesModel" "helloAt" "[I") (by decide +kernel)) (fun _ h9 => h9) rfl dX1_neighbours_11 ?_
      refine lv_iload_n hx hb dX1_neighbours_14 rfl (lv_at hl 2 rfl) ?_
      refine va_iald (D := (dC, dI)) hx hb hK hP 1 0 rfl rfl (vp_in_nI hlt (by decide)) dX1_neighbours_15 ?_
      refine lv_top (x' := hA i) (congrArg hA hcl) ?_
      refine lv_iconst (v := -1) hx hb dX1_neighbours_16 (by decide) ?_
      refine lv_icmp_eq (tgt := 42) hx hb dX1_neighbours_17 (by decide) (fun c17 => ?_) (fun c17 => ?_)
      · refine lv_iinc (v := nI (i + 1)) (lv' := [(2, .int (nI (i + 1))), (0, .ref h), (1, .int (bitsI (mNbq tm hA) i))]) hx hb dX1_neighbours_42 hl (k := 2) rfl (nI_1 _) (by decide) rfl (fun ls hl => ?_)
        refine lv_goto (tgt := 4) hx hb dX1_neighbours_45 (by decide) ?_
        exact ih (i + 1) (by omega) ls (by rw [bitsI_f (q := mNbq tm hA) (k := i) (by simp [mNbq, c17])]; exact lv_sub hl [1, 2, 0] rfl)
      · refine lv_aload_n hx hb dX1_neighbours_20 rfl (lv_at hl 0 rfl) ?_
        refine va_get (D := (dC, dI)) (ci := 1) (v := .int tm) (C := RX1) (T := TX1) (N := 8) hx hb hts iwsX1_neighbours hown hK hP 0 rfl rfl 1 (by decide) (hts (.fieldLink RX1 39 "BranchTimesModel" "time" "I") (by decide +kernel)) (fun _ h9 => h9) rfl dX1_neighbours_21 ?_
        refine lv_aload_n hx hb dX1_neighbours_24 rfl (lv_at hl 0 rfl) ?_
        refine va_get (D := (dC, dI)) (ci := 1) (v := .ref a1) (C := RX1) (T := TX1) (N := 8) hx hb hts iwsX1_neighbours hown hK hP 0 rfl rfl 2 (by decide) (hts (.fieldLink RX1 7 "BranchTimesModel" "helloAt" "[I") (by decide +kernel)) (fun _ h9 => h9) rfl dX1_neighbours_25 ?_
        refine lv_iload_n hx hb dX1_neighbours_28 rfl (lv_at hl 2 rfl) ?_
        refine va_iald (D := (dC, dI)) hx hb hK hP 1 0 rfl rfl (vp_in_nI hlt (by decide)) dX1_neighbours_29 ?_
        refine lv_top (x' := hA i) (congrArg hA hcl) ?_
        refine lv_bipush (v := 65) hx hb dX1_neighbours_30 (by decide) ?_
        refine lv_iadd hx hb dX1_neighbours_32 ?_
        refine lv_icmp_ge (tgt := 42) hx hb dX1_neighbours_33 (by decide) (fun c33 => ?_) (fun c33 => ?_)
        · refine lv_iinc (v := nI (i + 1)) (lv' := [(2, .int (nI (i + 1))), (0, .ref h), (1, .int (bitsI (mNbq tm hA) i))]) hx hb dX1_neighbours_42 hl (k := 2) rfl (nI_1 _) (by decide) rfl (fun ls hl => ?_)
          refine lv_goto (tgt := 4) hx hb dX1_neighbours_45 (by decide) ?_
          exact ih (i + 1) (by omega) ls (by rw [bitsI_f (q := mNbq tm hA) (k := i) (by simp [mNbq, c17, c33])]; exact lv_sub hl [1, 2, 0] rfl)
        · refine lv_iload_n hx hb dX1_neighbours_36 rfl (lv_at hl 1 rfl) ?_
          refine lv_iconst (v := 1) hx hb dX1_neighbours_37 (by decide) ?_
          refine lv_iload_n hx hb dX1_neighbours_38 rfl (lv_at hl 2 rfl) ?_
          refine lv_ishl hx hb dX1_neighbours_39 ?_
          refine lv_ior hx hb dX1_neighbours_40 ?_
          refine lv_istore_n (lv' := [(1, .int ((bitsI (mNbq tm hA) i) ||| (((1 : Int32)) <<< ((nI i) &&& 31)))), (0, .ref h), (2, .int (nI i))]) hx hb dX1_neighbours_41 rfl hl (by decide) rfl (fun ls hl => ?_)
          refine lv_iinc (v := nI (i + 1)) (lv' := [(2, .int (nI (i + 1))), (1, .int ((bitsI (mNbq tm hA) i) ||| (((1 : Int32)) <<< ((nI i) &&& 31)))), (0, .ref h)]) hx hb dX1_neighbours_42 hl (k := 2) rfl (nI_1 _) (by decide) rfl (fun ls hl => ?_)
          refine lv_goto (tgt := 4) hx hb dX1_neighbours_45 (by decide) ?_
          exact ih (i + 1) (by omega) ls (by rw [bitsI_t (q := mNbq tm hA) (k := i) (by simp [mNbq, c17, c33])]; exact lv_sub hl [2, 1, 0] rfl)
set_option maxHeartbeats 4000000 in
set_option maxRecDepth 100000 in
theorem c_X1_neighbours (l : Launch) (dC : Nat → ClassId) (dI : Nat → Nat → Nat) (h a1 a2 a3 a4 a5 a6 : Nat) (cA : ClassId) (me tm : Int32) (hA rA lT jA pT cF : Nat → Int32) : Met l yX1_neighbours wsX1_neighbours ({ frames := 0, cells := 0, slots := 0, locals := 0 }) (PR [.ref h] dC dI cA (wM h a1 a2 a3 a4 a5 a6 cA me tm hA rA lT jA pT cF)) (QcRead (mNb tm hA)) 0 0 (fun _ => False) := by
  refine Met.ofW (cc := cX1_neighbours) (maxL := 3) (ret := some .int) (by decide) rfl ?_
  intro p e s m args below meth c s₁ B hml hv
  obtain ⟨rfl, hP, hK⟩ := hv
  have hx := B.exec
  have hb := B.bytes
  have hr := B.returns
  have hts := atoms_spec (ws := wsX1_neighbours) B.pre
  have hown : s.vm.findClass RX1 = some m.cls := findClass_of_methodNamed B.named
  have hlocks := B.notSynchronized
  have S : CallFix p m c cX1_neighbours 3 s ([.ref h] : List Value).toArray wsX1_neighbours RX1 := ⟨hx, hb, hml, hown, hts⟩
  have hl := lv_entry ([.ref h]) (n := 3) (Nat.le_of_ble_eq_true rfl)
  rw [lg_entry_eq]
  generalize (lg_sl ([.ref h]) ++ List.replicate (3 - (lg_sl ([.ref h])).length) Slot.unset).toArray = ls at hl ⊢
  have hl : lv_has ls 3 [(0, .ref h)] := hl
  refine lv_iconst (v := 0) hx hb dX1_neighbours_0 (by decide) ?_
  refine lv_istore_n (lv' := [(1, .int ((0 : Int32))), (0, .ref h)]) hx hb dX1_neighbours_1 rfl hl (by decide) rfl (fun ls hl => ?_)
  refine lv_iconst (v := 0) hx hb dX1_neighbours_2 (by decide) ?_
  refine lv_istore_n (lv' := [(2, .int ((0 : Int32))), (1, .int ((0 : Int32))), (0, .ref h)]) hx hb dX1_neighbours_3 rfl hl (by decide) rfl (fun ls hl => ?_)
  refine lp_X1_neighbours_4 l dC dI h a1 a2 a3 a4 a5 a6 cA me tm hA rA lT jA pT cF S hK hP ⟨Nat.le_of_ble_eq_true rfl, Nat.le_of_ble_eq_true rfl⟩ (fun ls hl => ?_) 10 0 rfl ls (lv_sub hl [2, 1, 0] rfl)
  refine lv_iload_n hx hb dX1_neighbours_48 rfl (lv_at hl 1 rfl) ?_
  exact W.iret (v := bitsI (mNbq tm hA) 10) hx hb hr (fun t ht hW => ⟨rfl, ht⟩) (fun q h => absurd h List.not_mem_nil) dX1_neighbours_49
theorem hd_X1_neighbours : yX1_neighbours.cls = RX1 ∧ yX1_neighbours.cls ≠ "java/lang/invoke/MethodHandle" ∧ yX1_neighbours.cls ≠ "java/lang/invoke/VarHandle" ∧ (parseMethodDescriptor yX1_neighbours.desc).map (fun d => d.parameters.length) = some 0 := by decide +kernel

theorem iwsX1_isFirst : ∀ w ∈ u_ws RX1 TX1 8, w ∈ wsX1_isFirst := fun _ h => List.mem_cons_of_mem _ (List.mem_append_right _ h)
set_option maxHeartbeats 4000000 in
set_option maxRecDepth 100000 in
theorem c_X1_isFirst (l : Launch) (dC : Nat → ClassId) (dI : Nat → Nat → Nat) (h a1 a2 a3 a4 a5 a6 : Nat) (cA : ClassId) (me tm : Int32) (hA rA lT jA pT cF : Nat → Int32) : Met l yX1_isFirst wsX1_isFirst ({ frames := 1, cells := 0, slots := 0, locals := 22 }) (PR [.ref h] dC dI cA (wM h a1 a2 a3 a4 a5 a6 cA me tm hA rA lT jA pT cF)) (QcRead (bI (mFirst me (mNb tm hA)))) 0 0 (fun _ => False) := by
  refine Met.ofW (cc := cX1_isFirst) (maxL := 1) (ret := some .boolean) (by decide) rfl ?_
  intro p e s m args below meth c s₁ B hml hv
  obtain ⟨rfl, hP, hK⟩ := hv
  have hx := B.exec
  have hb := B.bytes
  have hr := B.returns
  have hts := atoms_spec (ws := wsX1_isFirst) B.pre
  have hown : s.vm.findClass RX1 = some m.cls := findClass_of_methodNamed B.named
  have hlocks := B.notSynchronized
  have S : CallFix p m c cX1_isFirst 1 s ([.ref h] : List Value).toArray wsX1_isFirst RX1 := ⟨hx, hb, hml, hown, hts⟩
  have hl := lv_entry ([.ref h]) (n := 1) (Nat.le_of_ble_eq_true rfl)
  rw [lg_entry_eq]
  generalize (lg_sl ([.ref h]) ++ List.replicate (1 - (lg_sl ([.ref h])).length) Slot.unset).toArray = ls at hl ⊢
  have hl : lv_has ls 1 [(0, .ref h)] := hl
  refine lv_aload_n hx hb dX1_isFirst_0 rfl (lv_at hl 0 rfl) ?_
  refine rd_V (As := []) (rest := []) (ci := 1) (qc := (RX1, TX1, 8)) S (c_X1_neighbours l dC dI h a1 a2 a3 a4 a5 a6 cA me tm hA rA lT jA pT cF) gX1_isFirst_X1_neighbours rfl ⟨rfl, rfl⟩ hd_X1_neighbours ⟨Nat.le_of_ble_eq_true rfl, Nat.le_of_ble_eq_true rfl⟩ hK hP rfl rfl rfl hl.1 rfl (Nat.le_of_ble_eq_true rfl) dX1_isFirst_1 ⟨Nat.le_of_ble_eq_true rfl, Nat.le_of_ble_eq_true rfl⟩ ?_
  refine lv_aload_n hx hb dX1_isFirst_4 rfl (lv_at hl 0 rfl) ?_
  refine va_get (D := (dC, dI)) (ci := 1) (v := .int me) (C := RX1) (T := TX1) (N := 8) hx hb hts iwsX1_isFirst hown hK hP 0 rfl rfl 0 (by decide) (hts (.fieldLink RX1 28 "BranchTimesModel" "me" "I") (by decide +kernel)) (fun _ h9 => h9) rfl dX1_isFirst_5 ?_
  refine lv_ishr hx hb dX1_isFirst_8 ?_
  refine lv_if_ne (tgt := 16) hx hb dX1_isFirst_9 (by decide) (fun c9 => ?_) (fun c9 => ?_)
  · refine lv_iconst (v := 0) hx hb dX1_isFirst_16 (by decide) ?_
    have er : (0 : Int32) = bI (mFirst me (mNb tm hA)) := by simp [mFirst, bI, c9]
    exact W.zret (v := (0 : Int32)) (ty := .boolean) hx hb hr rfl (fun t ht hW => ⟨congrArg (fun z => Outcome.returned (some (Value.int z))) er, ht⟩) (fun q h => absurd h List.not_mem_nil) dX1_isFirst_17
  · refine lv_iconst (v := 1) hx hb dX1_isFirst_12 (by decide) ?_
    refine lv_goto (tgt := 17) hx hb dX1_isFirst_13 (by decide) ?_
    have er : (1 : Int32) = bI (mFirst me (mNb tm hA)) := by simp [mFirst, bI, c9]
    exact W.zret (v := (1 : Int32)) (ty := .boolean) hx hb hr rfl (fun t ht hW => ⟨congrArg (fun z => Outcome.returned (some (Value.int z))) er, ht⟩) (fun q h => absurd h List.not_mem_nil) dX1_isFirst_17
theorem hd_X1_isFirst : yX1_isFirst.cls = RX1 ∧ yX1_isFirst.cls ≠ "java/lang/invoke/MethodHandle" ∧ yX1_isFirst.cls ≠ "java/lang/invoke/VarHandle" ∧ (parseMethodDescriptor yX1_isFirst.desc).map (fun d => d.parameters.length) = some 0 := by decide +kernel

theorem iwsX1_isAsking : ∀ w ∈ u_ws RX1 TX1 8, w ∈ wsX1_isAsking := fun _ h => List.mem_cons_of_mem _ (List.mem_append_right _ h)
set_option maxHeartbeats 4000000 in
set_option maxRecDepth 100000 in
theorem c_X1_isAsking (l : Launch) (dC : Nat → ClassId) (dI : Nat → Nat → Nat) (h a1 a2 a3 a4 a5 a6 : Nat) (cA : ClassId) (me tm : Int32) (hA rA lT jA pT cF : Nat → Int32) (hme : ¬ ((1 : Int32) <<< (me &&& 31)) = 0) : Met l yX1_isAsking wsX1_isAsking ({ frames := 1, cells := 0, slots := 0, locals := 22 }) (PR [.ref h] dC dI cA (wM h a1 a2 a3 a4 a5 a6 cA me tm hA rA lT jA pT cF)) (QcRead (bI (mAsk me (mNb tm hA)))) 0 0 (fun _ => False) := by
  refine Met.ofW (cc := cX1_isAsking) (maxL := 1) (ret := some .boolean) (by decide) rfl ?_
  intro p e s m args below meth c s₁ B hml hv
  obtain ⟨rfl, hP, hK⟩ := hv
  have hx := B.exec
  have hb := B.bytes
  have hr := B.returns
  have hts := atoms_spec (ws := wsX1_isAsking) B.pre
  have hown : s.vm.findClass RX1 = some m.cls := findClass_of_methodNamed B.named
  have hlocks := B.notSynchronized
  have S : CallFix p m c cX1_isAsking 1 s ([.ref h] : List Value).toArray wsX1_isAsking RX1 := ⟨hx, hb, hml, hown, hts⟩
  have hl := lv_entry ([.ref h]) (n := 1) (Nat.le_of_ble_eq_true rfl)
  rw [lg_entry_eq]
  generalize (lg_sl ([.ref h]) ++ List.replicate (1 - (lg_sl ([.ref h])).length) Slot.unset).toArray = ls at hl ⊢
  have hl : lv_has ls 1 [(0, .ref h)] := hl
  refine lv_aload_n hx hb dX1_isAsking_0 rfl (lv_at hl 0 rfl) ?_
  refine rd_V (As := []) (rest := []) (ci := 1) (qc := (RX1, TX1, 8)) S (c_X1_neighbours l dC dI h a1 a2 a3 a4 a5 a6 cA me tm hA rA lT jA pT cF) gX1_isAsking_X1_neighbours rfl ⟨rfl, rfl⟩ hd_X1_neighbours ⟨Nat.le_of_ble_eq_true rfl, Nat.le_of_ble_eq_true rfl⟩ hK hP rfl rfl rfl hl.1 rfl (Nat.le_of_ble_eq_true rfl) dX1_isAsking_1 ⟨Nat.le_of_ble_eq_true rfl, Nat.le_of_ble_eq_true rfl⟩ ?_
  refine lv_iconst (v := 1) hx hb dX1_isAsking_4 (by decide) ?_
  refine lv_aload_n hx hb dX1_isAsking_5 rfl (lv_at hl 0 rfl) ?_
  refine va_get (D := (dC, dI)) (ci := 1) (v := .int me) (C := RX1) (T := TX1) (N := 8) hx hb hts iwsX1_isAsking hown hK hP 0 rfl rfl 0 (by decide) (hts (.fieldLink RX1 28 "BranchTimesModel" "me" "I") (by decide +kernel)) (fun _ h9 => h9) rfl dX1_isAsking_6 ?_
  refine lv_ishl hx hb dX1_isAsking_9 ?_
  refine lv_irem hx hb dX1_isAsking_10 (hme) ?_
  refine lv_if_ne (tgt := 18) hx hb dX1_isAsking_11 (by decide) (fun c11 => ?_) (fun c11 => ?_)
  · refine lv_iconst (v := 0) hx hb dX1_isAsking_18 (by decide) ?_
    have er : (0 : Int32) = bI (mAsk me (mNb tm hA)) := by simp [mAsk, bI, c11]
    exact W.zret (v := (0 : Int32)) (ty := .boolean) hx hb hr rfl (fun t ht hW => ⟨congrArg (fun z => Outcome.returned (some (Value.int z))) er, ht⟩) (fun q h => absurd h List.not_mem_nil) dX1_isAsking_19
  · refine lv_iconst (v := 1) hx hb dX1_isAsking_14 (by decide) ?_
    refine lv_goto (tgt := 19) hx hb dX1_isAsking_15 (by decide) ?_
    have er : (1 : Int32) = bI (mAsk me (mNb tm hA)) := by simp [mAsk, bI, c11]
    exact W.zret (v := (1 : Int32)) (ty := .boolean) hx hb hr rfl (fun t ht hW => ⟨congrArg (fun z => Outcome.returned (some (Value.int z))) er, ht⟩) (fun q h => absurd h List.not_mem_nil) dX1_isAsking_19
theorem hd_X1_isAsking : yX1_isAsking.cls = RX1 ∧ yX1_isAsking.cls ≠ "java/lang/invoke/MethodHandle" ∧ yX1_isAsking.cls ≠ "java/lang/invoke/VarHandle" ∧ (parseMethodDescriptor yX1_isAsking.desc).map (fun d => d.parameters.length) = some 0 := by decide +kernel

theorem iwsX1_isCrowded : ∀ w ∈ u_ws RX1 TX1 8, w ∈ wsX1_isCrowded := fun _ h => List.mem_cons_of_mem _ (List.mem_append_right _ h)
set_option maxHeartbeats 4000000 in
set_option maxRecDepth 100000 in
theorem lp_X1_isCrowded {p : Program} {e : Env} {s : State} {m : MethodId} {args : Array Value} {below : List Frame} {meth : Method} {c : Code} {R : Room} {cells slots : Nat} {Q : State → Prop} {H : Heap} {locs : List Loc} (l : Launch) (h T : Nat) (S : CallFix p m c cX1_isCrowded 3 s args wsX1_isCrowded RX1) (k : ∀ (ls : Array Slot) (x2 : Int32), lv_has ls 3 [(0, .ref h), (1, .int (nI T)), (2, .int x2)] → W p l e R s m args below meth c H locs cells slots Q (F0 m 24 ls [])) : ∀ (n a b : Nat), b < 2 ^ n → n ≤ 30 → a + mCntN n b = T → ∀ (ls : Array Slot), lv_has ls 3 [(0, .ref h), (1, .int (nI a)), (2, .int (nI b))] → W p l e R s m args below meth c H locs cells slots Q (F0 m 7 ls []) := by
  obtain ⟨hx, hb, hml, hown, hts⟩ := id S
  intro n
  induction n with
  | zero =>
    intro a b hlt hn hT ls hl
    obtain rfl : b = 0 := by simpa using hlt
    obtain rfl : a = T := hT
    refine lv_iload_n hx hb dX1_isCrowded_7 rfl (lv_at hl 2 rfl) ?_
    refine lv_if_eq (tgt := 24) hx hb dX1_isCrowded_8 (by decide) (fun c8 => ?_) (fun c8 => ?_)
    · exact k ls _ hl
    · exact absurd nI_0 c8
  | succ n ih =>
    intro a b hlt hn hT ls hl
    have hp : 2 ^ (n + 1) ≤ 2 ^ 30 := Nat.pow_le_pow_right (by decide) hn
    have hb31 : b < 2 ^ 31 := by omega
    refine lv_iload_n hx hb dX1_isCrowded_7 rfl (lv_at hl 2 rfl) ?_
    refine lv_if_eq (tgt := 24) hx hb dX1_isCrowded_8 (by decide) (fun c8 => ?_) (fun c8 => ?_)
    · have hb0 : b = 0 := (nI_eq hb31 (by decide)).mp (c8.trans nI_0.symm)
      subst hb0
      rw [mCnt0, Nat.add_zero] at hT
      subst hT
      exact k ls _ hl
    · refine lv_iload_n hx hb dX1_isCrowded_11 rfl (lv_at hl 1 rfl) ?_
      refine lv_iload_n hx hb dX1_isCrowded_12 rfl (lv_at hl 2 rfl) ?_
      refine lv_iconst (v := 2) hx hb dX1_isCrowded_13 (by decide) ?_
      refine lv_irem hx hb dX1_isCrowded_14 (by decide) ?_
      refine lv_top (x' := nI (b % 2)) (pk_rem (d := 2) hb31 (by decide) (by decide)) ?_
      refine lv_iadd hx hb dX1_isCrowded_15 ?_
      refine lv_top (x' := nI (a + b % 2)) (nI_add _ _) ?_
      refine lv_istore_n (lv' := [(1, .int (nI (a + b % 2))), (0, .ref h), (2, .int (nI b))]) hx hb dX1_isCrowded_16 rfl hl (by decide) rfl (fun ls hl => ?_)
      refine lv_iload_n hx hb dX1_isCrowded_17 rfl (lv_at hl 2 rfl) ?_
      refine lv_iconst (v := 2) hx hb dX1_isCrowded_18 (by decide) ?_
      refine lv_idiv hx hb dX1_isCrowded_19 (by decide) ?_
      refine lv_top (x' := nI (b / 2)) (pk_div (d := 2) hb31 (by decide) (by decide)) ?_
      refine lv_istore_n (lv' := [(2, .int (nI (b / 2))), (1, .int (nI (a + b % 2))), (0, .ref h)]) hx hb dX1_isCrowded_20 rfl hl (by decide) rfl (fun ls hl => ?_)
      refine lv_goto (tgt := 7) hx hb dX1_isCrowded_21 (by decide) ?_
      have h2 : 2 ^ (n + 1) = 2 ^ n + 2 ^ n := by rw [Nat.pow_succ]; omega
      exact ih (a + b % 2) (b / 2) (by omega) (by omega) (by rw [← hT]; show a + b % 2 + mCntN n (b / 2) = a + (b % 2 + mCntN n (b / 2)); omega) ls (lv_sub hl [2, 1, 0] rfl)
set_option maxHeartbeats 4000000 in
set_option maxRecDepth 100000 in
theorem c_X1_isCrowded (l : Launch) (dC : Nat → ClassId) (dI : Nat → Nat → Nat) (h a1 a2 a3 a4 a5 a6 : Nat) (cA : ClassId) (me tm : Int32) (hA rA lT jA pT cF : Nat → Int32) : Met l yX1_isCrowded wsX1_isCrowded ({ frames := 1, cells := 0, slots := 0, locals := 22 }) (PR [.ref h] dC dI cA (wM h a1 a2 a3 a4 a5 a6 cA me tm hA rA lT jA pT cF)) (QcRead (bI (mCrowd (mNb tm hA)))) 0 0 (fun _ => False) := by
  refine Met.ofW (cc := cX1_isCrowded) (maxL := 3) (ret := some .boolean) (by decide) rfl ?_
  intro p e s m args below meth c s₁ B hml hv
  obtain ⟨rfl, hP, hK⟩ := hv
  have hx := B.exec
  have hb := B.bytes
  have hr := B.returns
  have hts := atoms_spec (ws := wsX1_isCrowded) B.pre
  have hown : s.vm.findClass RX1 = some m.cls := findClass_of_methodNamed B.named
  have hlocks := B.notSynchronized
  have S : CallFix p m c cX1_isCrowded 3 s ([.ref h] : List Value).toArray wsX1_isCrowded RX1 := ⟨hx, hb, hml, hown, hts⟩
  have hl := lv_entry ([.ref h]) (n := 3) (Nat.le_of_ble_eq_true rfl)
  rw [lg_entry_eq]
  generalize (lg_sl ([.ref h]) ++ List.replicate (3 - (lg_sl ([.ref h])).length) Slot.unset).toArray = ls at hl ⊢
  have hl : lv_has ls 3 [(0, .ref h)] := hl
  obtain ⟨b, hb10, eb⟩ := bitsI_nat (mNbq tm hA) 10 (by decide)
  have eb : mNb tm hA = nI b := eb
  have hcl : (nI b).toNatClampNeg = b := nI_clamp (by omega)
  refine lv_iconst (v := 0) hx hb dX1_isCrowded_0 (by decide) ?_
  refine lv_istore_n (lv' := [(1, .int 0), (0, .ref h)]) hx hb dX1_isCrowded_1 rfl hl (by decide) rfl (fun ls hl => ?_)
  refine lv_aload_n hx hb dX1_isCrowded_2 rfl (lv_at hl 1 rfl) ?_
  refine rd_V (As := []) (rest := []) (ci := 1) (qc := (RX1, TX1, 8)) S (c_X1_neighbours l dC dI h a1 a2 a3 a4 a5 a6 cA me tm hA rA lT jA pT cF) gX1_isCrowded_X1_neighbours rfl ⟨rfl, rfl⟩ hd_X1_neighbours ⟨Nat.le_of_ble_eq_true rfl, Nat.le_of_ble_eq_true rfl⟩ hK hP rfl rfl rfl hl.1 rfl (Nat.le_of_ble_eq_true rfl) dX1_isCrowded_3 ⟨Nat.le_of_ble_eq_true rfl, Nat.le_of_ble_eq_true rfl⟩ ?_
  refine lv_top (x' := nI b) eb ?_
  refine lv_istore_n (lv' := [(2, .int (nI b)), (1, .int 0), (0, .ref h)]) hx hb dX1_isCrowded_6 rfl hl (by decide) rfl (fun ls hl => ?_)
  refine lp_X1_isCrowded l h (mCntN 10 b) S (fun ls x2 hl => ?_) 10 0 b hb10 (by decide) (Nat.zero_add _) ls (lv_sub hl [2, 1, 0] rfl)
  have ec : mCrowd (mNb tm hA) = !decide (nI (mCntN 10 b) ≤ 1) := by unfold mCrowd; rw [eb, hcl]
  refine lv_iload_n hx hb dX1_isCrowded_24 rfl (lv_at hl 1 rfl) ?_
  refine lv_iconst (v := 1) hx hb dX1_isCrowded_25 (by decide) ?_
  refine lv_icmp_le (tgt := 33) hx hb dX1_isCrowded_26 (by decide) (fun c26 => ?_) (fun c26 => ?_)
  · refine lv_iconst (v := 0) hx hb dX1_isCrowded_33 (by decide) ?_
    have er : (0 : Int32) = bI (mCrowd (mNb tm hA)) := bI_0 (by rw [ec]; simp [c26])
    exact W.zret (v := (0 : Int32)) (ty := .boolean) hx hb hr rfl (fun t ht hW => ⟨congrArg (fun z => Outcome.returned (some (Value.int z))) er, ht⟩) (fun q h => absurd h List.not_mem_nil) dX1_isCrowded_34
  · refine lv_iconst (v := 1) hx hb dX1_isCrowded_29 (by decide) ?_
    refine lv_goto (tgt := 34) hx hb dX1_isCrowded_30 (by decide) ?_
    have er : (1 : Int32) = bI (mCrowd (mNb tm hA)) := bI_1 (by rw [ec]; simp [c26])
    exact W.zret (v := (1 : Int32)) (ty := .boolean) hx hb hr rfl (fun t ht hW => ⟨congrArg (fun z => Outcome.returned (some (Value.int z))) er, ht⟩) (fun q h => absurd h List.not_mem_nil) dX1_isCrowded_34
theorem hd_X1_isCrowded : yX1_isCrowded.cls = RX1 ∧ yX1_isCrowded.cls ≠ "java/lang/invoke/MethodHandle" ∧ yX1_isCrowded.cls ≠ "java/lang/invoke/VarHandle" ∧ (parseMethodDescriptor yX1_isCrowded.desc).map (fun d => d.parameters.length) = some 0 := by decide +kernel

theorem iwsX1_memberTill : ∀ w ∈ u_ws RX1 TX1 8, w ∈ wsX1_memberTill := fun _ h => List.mem_cons_of_mem _ (List.mem_append_right _ h)
set_option maxHeartbeats 4000000 in
set_option maxRecDepth 100000 in
theorem c_X1_memberTill (l : Launch) (dC : Nat → ClassId) (dI : Nat → Nat → Nat) (h a1 a2 a3 a4 a5 a6 : Nat) (cA : ClassId) (me tm : Int32) (hA rA lT jA pT cF : Nat → Int32) (g : Int32) (hg : xG g = true) : Met l yX1_memberTill wsX1_memberTill ({ frames := 0, cells := 0, slots := 0, locals := 0 }) (PR [.ref h, .int g] dC dI cA (wM h a1 a2 a3 a4 a5 a6 cA me tm hA rA lT jA pT cF)) (QcRead (mMt tm rA lT g)) 0 0 (fun _ => False) := by
  refine Met.ofW (cc := cX1_memberTill) (maxL := 3) (ret := some .int) (by decide) rfl ?_
  intro p e s m args below meth c s₁ B hml hv
  obtain ⟨rfl, hP, hK⟩ := hv
  have hx := B.exec
  have hb := B.bytes
  have hr := B.returns
  have hts := atoms_spec (ws := wsX1_memberTill) B.pre
  have hown : s.vm.findClass RX1 = some m.cls := findClass_of_methodNamed B.named
  have hlocks := B.notSynchronized
  have S : CallFix p m c cX1_memberTill 3 s ([.ref h, .int g] : List Value).toArray wsX1_memberTill RX1 := ⟨hx, hb, hml, hown, hts⟩
  have hl := lv_entry ([.ref h, .int g]) (n := 3) (Nat.le_of_ble_eq_true rfl)
  rw [lg_entry_eq]
  generalize (lg_sl ([.ref h, .int g]) ++ List.replicate (3 - (lg_sl ([.ref h, .int g])).length) Slot.unset).toArray = ls at hl ⊢
  have hl : lv_has ls 3 [(0, .ref h), (1, .int g)] := hl
  refine lv_aload_n hx hb dX1_memberTill_0 rfl (lv_at hl 0 rfl) ?_
  refine va_get (D := (dC, dI)) (ci := 1) (v := .ref a2) (C := RX1) (T := TX1) (N := 8) hx hb hts iwsX1_memberTill hown hK hP 0 rfl rfl 3 (by decide) (hts (.fieldLink RX1 13 "BranchTimesModel" "reportAt" "[I") (by decide +kernel)) (fun _ h9 => h9) rfl dX1_memberTill_1 ?_
  refine lv_iload_n hx hb dX1_memberTill_4 rfl (lv_at hl 1 rfl) ?_
  refine va_iald (D := (dC, dI)) hx hb hK hP 2 0 rfl rfl (G_in hg) dX1_memberTill_5 ?_
  refine lv_iconst (v := -1) hx hb dX1_memberTill_6 (by decide) ?_
  refine lv_icmp_ne (tgt := 12) hx hb dX1_memberTill_7 (by decide) (fun c7 => ?_) (fun c7 => ?_)
  · refine lv_aload_n hx hb dX1_memberTill_12 rfl (lv_at hl 0 rfl) ?_
    refine va_get (D := (dC, dI)) (ci := 1) (v := .ref a2) (C := RX1) (T := TX1) (N := 8) hx hb hts iwsX1_memberTill hown hK hP 0 rfl rfl 3 (by decide) (hts (.fieldLink RX1 13 "BranchTimesModel" "reportAt" "[I") (by decide +kernel)) (fun _ h9 => h9) rfl dX1_memberTill_13 ?_
    refine lv_iload_n hx hb dX1_memberTill_16 rfl (lv_at hl 1 rfl) ?_
    refine va_iald (D := (dC, dI)) hx hb hK hP 2 0 rfl rfl (G_in hg) dX1_memberTill_17 ?_
    refine lv_bipush (v := 60) hx hb dX1_memberTill_18 (by decide) ?_
    refine lv_iadd hx hb dX1_memberTill_20 ?_
    refine lv_istore_n (lv' := [(2, .int ((rA g.toNatClampNeg) + ((60 : Int32)))), (0, .ref h), (1, .int g)]) hx hb dX1_memberTill_21 rfl hl (by decide) rfl (fun ls hl => ?_)
    refine lv_aload_n hx hb dX1_memberTill_22 rfl (lv_at hl 1 rfl) ?_
    refine va_get (D := (dC, dI)) (ci := 1) (v := .ref a3) (C := RX1) (T := TX1) (N := 8) hx hb hts iwsX1_memberTill hown hK hP 0 rfl rfl 4 (by decide) (hts (.fieldLink RX1 16 "BranchTimesModel" "leftTill" "[I") (by decide +kernel)) (fun _ h9 => h9) rfl dX1_memberTill_23 ?_
    refine lv_iload_n hx hb dX1_memberTill_26 rfl (lv_at hl 2 rfl) ?_
    refine va_iald (D := (dC, dI)) hx hb hK hP 3 0 rfl rfl (G_in hg) dX1_memberTill_27 ?_
    refine lv_iload_n hx hb dX1_memberTill_28 rfl (lv_at hl 0 rfl) ?_
    refine lv_icmp_ge (tgt := 41) hx hb dX1_memberTill_29 (by decide) (fun c29 => ?_) (fun c29 => ?_)
    · refine lv_iload_n hx hb dX1_memberTill_41 rfl (lv_at hl 0 rfl) ?_
      refine lv_istore_n (lv' := [(2, .int ((rA g.toNatClampNeg) + ((60 : Int32)))), (0, .ref h), (1, .int g)]) hx hb dX1_memberTill_42 rfl hl (by decide) rfl (fun ls hl => ?_)
      refine lv_aload_n hx hb dX1_memberTill_43 rfl (lv_at hl 1 rfl) ?_
      refine va_get (D := (dC, dI)) (ci := 1) (v := .int tm) (C := RX1) (T := TX1) (N := 8) hx hb hts iwsX1_memberTill hown hK hP 0 rfl rfl 1 (by decide) (hts (.fieldLink RX1 39 "BranchTimesModel" "time" "I") (by decide +kernel)) (fun _ h9 => h9) rfl dX1_memberTill_44 ?_
      refine lv_iload_n hx hb dX1_memberTill_47 rfl (lv_at hl 0 rfl) ?_
      refine lv_icmp_ge (tgt := 55) hx hb dX1_memberTill_48 (by decide) (fun c48 => ?_) (fun c48 => ?_)
      · refine lv_iconst (v := 0) hx hb dX1_memberTill_55 (by decide) ?_
        have er : (0 : Int32) = mMt tm rA lT g := by simp [mMt, mT, c7, c29, c48]
        exact W.iret (v := (0 : Int32)) hx hb hr (fun t ht hW => ⟨congrArg (fun z => Outcome.returned (some (Value.int z))) er, ht⟩) (fun q h => absurd h List.not_mem_nil) dX1_memberTill_56
      · refine lv_iload_n hx hb dX1_memberTill_51 rfl (lv_at hl 0 rfl) ?_
        refine lv_goto (tgt := 56) hx hb dX1_memberTill_52 (by decide) ?_
        have er : (rA g.toNatClampNeg) + ((60 : Int32)) = mMt tm rA lT g := by simp [mMt, mT, c7, c29, c48]
        exact W.iret (v := (rA g.toNatClampNeg) + ((60 : Int32))) hx hb hr (fun t ht hW => ⟨congrArg (fun z => Outcome.returned (some (Value.int z))) er, ht⟩) (fun q h => absurd h List.not_mem_nil) dX1_memberTill_56
    · refine lv_aload_n hx hb dX1_memberTill_32 rfl (lv_at hl 1 rfl) ?_
      refine va_get (D := (dC, dI)) (ci := 1) (v := .ref a3) (C := RX1) (T := TX1) (N := 8) hx hb hts iwsX1_memberTill hown hK hP 0 rfl rfl 4 (by decide) (hts (.fieldLink RX1 16 "BranchTimesModel" "leftTill" "[I") (by decide +kernel)) (fun _ h9 => h9) rfl dX1_memberTill_33 ?_
      refine lv_iload_n hx hb dX1_memberTill_36 rfl (lv_at hl 2 rfl) ?_
      refine va_iald (D := (dC, dI)) hx hb hK hP 3 0 rfl rfl (G_in hg) dX1_memberTill_37 ?_
      refine lv_goto (tgt := 42) hx hb dX1_memberTill_38 (by decide) ?_
      refine lv_istore_n (lv' := [(2, .int (lT g.toNatClampNeg)), (0, .ref h), (1, .int g)]) hx hb dX1_memberTill_42 rfl hl (by decide) rfl (fun ls hl => ?_)
      refine lv_aload_n hx hb dX1_memberTill_43 rfl (lv_at hl 1 rfl) ?_
      refine va_get (D := (dC, dI)) (ci := 1) (v := .int tm) (C := RX1) (T := TX1) (N := 8) hx hb hts iwsX1_memberTill hown hK hP 0 rfl rfl 1 (by decide) (hts (.fieldLink RX1 39 "BranchTimesModel" "time" "I") (by decide +kernel)) (fun _ h9 => h9) rfl dX1_memberTill_44 ?_
      refine lv_iload_n hx hb dX1_memberTill_47 rfl (lv_at hl 0 rfl) ?_
      refine lv_icmp_ge (tgt := 55) hx hb dX1_memberTill_48 (by decide) (fun c48 => ?_) (fun c48 => ?_)
      · refine lv_iconst (v := 0) hx hb dX1_memberTill_55 (by decide) ?_
        have er : (0 : Int32) = mMt tm rA lT g := by simp [mMt, mT, c7, c29, c48]
        exact W.iret (v := (0 : Int32)) hx hb hr (fun t ht hW => ⟨congrArg (fun z => Outcome.returned (some (Value.int z))) er, ht⟩) (fun q h => absurd h List.not_mem_nil) dX1_memberTill_56
      · refine lv_iload_n hx hb dX1_memberTill_51 rfl (lv_at hl 0 rfl) ?_
        refine lv_goto (tgt := 56) hx hb dX1_memberTill_52 (by decide) ?_
        have er : lT g.toNatClampNeg = mMt tm rA lT g := by simp [mMt, mT, c7, c29, c48]
        exact W.iret (v := lT g.toNatClampNeg) hx hb hr (fun t ht hW => ⟨congrArg (fun z => Outcome.returned (some (Value.int z))) er, ht⟩) (fun q h => absurd h List.not_mem_nil) dX1_memberTill_56
  · refine lv_iconst (v := 0) hx hb dX1_memberTill_10 (by decide) ?_
    have er : (0 : Int32) = mMt tm rA lT g := by simp [mMt, mT, c7]
    exact W.iret (v := (0 : Int32)) hx hb hr (fun t ht hW => ⟨congrArg (fun z => Outcome.returned (some (Value.int z))) er, ht⟩) (fun q h => absurd h List.not_mem_nil) dX1_memberTill_11
theorem hd_X1_memberTill : yX1_memberTill.cls = RX1 ∧ yX1_memberTill.cls ≠ "java/lang/invoke/MethodHandle" ∧ yX1_memberTill.cls ≠ "java/lang/invoke/VarHandle" ∧ (parseMethodDescriptor yX1_memberTill.desc).map (fun d => d.parameters.length) = some 1 := by decide +kernel

theorem iwsX1_members : ∀ w ∈ u_ws RX1 TX1 8, w ∈ wsX1_members := fun _ h => List.mem_cons_of_mem _ (List.mem_append_right _ h)
set_option maxHeartbeats 4000000 in
set_option maxRecDepth 100000 in
theorem c_X1_members (l : Launch) (dC : Nat → ClassId) (dI : Nat → Nat → Nat) (h a1 a2 a3 a4 a5 a6 : Nat) (cA : ClassId) (me tm : Int32) (hA rA lT jA pT cF : Nat → Int32) (g : Int32) : Met l yX1_members wsX1_members ({ frames := 1, cells := 0, slots := 0, locals := 22 }) (PR [.ref h, .int g] dC dI cA (wM h a1 a2 a3 a4 a5 a6 cA me tm hA rA lT jA pT cF)) (QcRead (mMe tm rA lT g)) 0 0 (fun _ => False) := by
  refine Met.ofW (cc := cX1_members) (maxL := 2) (ret := some .int) (by decide) rfl ?_
  intro p e s m args below meth c s₁ B hml hv
  obtain ⟨rfl, hP, hK⟩ := hv
  have hx := B.exec
  have hb := B.bytes
  have hr := B.returns
  have hts := atoms_spec (ws := wsX1_members) B.pre
  have hown : s.vm.findClass RX1 = some m.cls := findClass_of_methodNamed B.named
  have hlocks := B.notSynchronized
  have S : CallFix p m c cX1_members 2 s ([.ref h, .int g] : List Value).toArray wsX1_members RX1 := ⟨hx, hb, hml, hown, hts⟩
  have hl := lv_entry ([.ref h, .int g]) (n := 2) (Nat.le_of_ble_eq_true rfl)
  rw [lg_entry_eq]
  generalize (lg_sl ([.ref h, .int g]) ++ List.replicate (2 - (lg_sl ([.ref h, .int g])).length) Slot.unset).toArray = ls at hl ⊢
  have hl : lv_has ls 2 [(0, .ref h), (1, .int g)] := hl
  refine lv_iload_n hx hb dX1_members_0 rfl (lv_at hl 1 rfl) ?_
  refine rd_S (As := [.int g]) (rest := []) S (c_X1_isGroup l g) gX1_members_X1_isGroup rfl ⟨rfl, rfl⟩ hd_X1_isGroup ⟨Nat.le_of_ble_eq_true rfl, Nat.le_of_ble_eq_true rfl⟩ rfl hl.1 rfl (Nat.le_of_ble_eq_true rfl) dX1_members_1 ⟨Nat.le_of_ble_eq_true rfl, Nat.le_of_ble_eq_true rfl⟩ ?_
  refine lv_if_eq (tgt := 15) hx hb dX1_members_4 (by decide) (fun c4 => ?_) (fun c4 => ?_)
  · have b4 := bI_z c4
    refine lv_iconst (v := -1) hx hb dX1_members_15 (by decide) ?_
    have er : (-1 : Int32) = mMe tm rA lT g := by simp [mMe, b4]
    exact W.iret (v := (-1 : Int32)) hx hb hr (fun t ht hW => ⟨congrArg (fun z => Outcome.returned (some (Value.int z))) er, ht⟩) (fun q h => absurd h List.not_mem_nil) dX1_members_16
  · have b4 := bI_nz c4
    refine lv_aload_n hx hb dX1_members_7 rfl (lv_at hl 0 rfl) ?_
    refine lv_iload_n hx hb dX1_members_8 rfl (lv_at hl 1 rfl) ?_
    refine rd_V (As := [.int g]) (rest := []) (ci := 1) (qc := (RX1, TX1, 8)) S (c_X1_memberTill l dC dI h a1 a2 a3 a4 a5 a6 cA me tm hA rA lT jA pT cF g b4) gX1_members_X1_memberTill rfl ⟨rfl, rfl⟩ hd_X1_memberTill ⟨Nat.le_of_ble_eq_true rfl, Nat.le_of_ble_eq_true rfl⟩ hK hP rfl rfl rfl hl.1 rfl (Nat.le_of_ble_eq_true rfl) dX1_members_9 ⟨Nat.le_of_ble_eq_true rfl, Nat.le_of_ble_eq_true rfl⟩ ?_
    refine lv_goto (tgt := 16) hx hb dX1_members_12 (by decide) ?_
    have er : mMt tm rA lT g = mMe tm rA lT g := by simp [mMe, b4]
    exact W.iret (v := mMt tm rA lT g) hx hb hr (fun t ht hW => ⟨congrArg (fun z => Outcome.returned (some (Value.int z))) er, ht⟩) (fun q h => absurd h List.not_mem_nil) dX1_members_16
theorem hd_X1_members : yX1_members.cls = RX1 ∧ yX1_members.cls ≠ "java/lang/invoke/MethodHandle" ∧ yX1_members.cls ≠ "java/lang/invoke/VarHandle" ∧ (parseMethodDescriptor yX1_members.desc).map (fun d => d.parameters.length) = some 1 := by decide +kernel

theorem iwsX1_till : ∀ w ∈ u_ws RX1 TX1 8, w ∈ wsX1_till := fun _ h => List.mem_cons_of_mem _ (List.mem_append_right _ h)
set_option maxHeartbeats 4000000 in
set_option maxRecDepth 100000 in
theorem c_X1_till (l : Launch) (dC : Nat → ClassId) (dI : Nat → Nat → Nat) (h a1 a2 a3 a4 a5 a6 : Nat) (cA : ClassId) (me tm : Int32) (hA rA lT jA pT cF : Nat → Int32) (g q : Int32) (hbr : mBr g q = true) : Met l yX1_till wsX1_till ({ frames := 0, cells := 0, slots := 0, locals := 0 }) (PR [.ref h, .int g, .int q] dC dI cA (wM h a1 a2 a3 a4 a5 a6 cA me tm hA rA lT jA pT cF)) (QcRead (mTi tm jA pT g q)) 0 0 (fun _ => False) := by
  refine Met.ofW (cc := cX1_till) (maxL := 5) (ret := some .int) (by decide) rfl ?_
  intro p e s m args below meth c s₁ B hml hv
  obtain ⟨rfl, hP, hK⟩ := hv
  have hx := B.exec
  have hb := B.bytes
  have hr := B.returns
  have hts := atoms_spec (ws := wsX1_till) B.pre
  have hown : s.vm.findClass RX1 = some m.cls := findClass_of_methodNamed B.named
  have hlocks := B.notSynchronized
  have S : CallFix p m c cX1_till 5 s ([.ref h, .int g, .int q] : List Value).toArray wsX1_till RX1 := ⟨hx, hb, hml, hown, hts⟩
  have hl := lv_entry ([.ref h, .int g, .int q]) (n := 5) (Nat.le_of_ble_eq_true rfl)
  rw [lg_entry_eq]
  generalize (lg_sl ([.ref h, .int g, .int q]) ++ List.replicate (5 - (lg_sl ([.ref h, .int g, .int q])).length) Slot.unset).toArray = ls at hl ⊢
  have hl : lv_has ls 5 [(0, .ref h), (1, .int g), (2, .int q)] := hl
  refine lv_bipush (v := 17) hx hb dX1_till_0 (by decide) ?_
  refine lv_iload_n hx hb dX1_till_2 rfl (lv_at hl 1 rfl) ?_
  refine lv_imul hx hb dX1_till_3 ?_
  refine lv_iload_n hx hb dX1_till_4 rfl (lv_at hl 2 rfl) ?_
  refine lv_iadd hx hb dX1_till_5 ?_
  refine lv_iconst (v := 1) hx hb dX1_till_6 (by decide) ?_
  refine lv_iadd hx hb dX1_till_7 ?_
  refine lv_top (x' := mPl g q) (rfl) ?_
  refine lv_istore_n (lv' := [(3, .int (mPl g q)), (0, .ref h), (1, .int g), (2, .int q)]) hx hb dX1_till_8 rfl hl (by decide) rfl (fun ls hl => ?_)
  refine lv_aload_n hx hb dX1_till_9 rfl (lv_at hl 1 rfl) ?_
  refine va_get (D := (dC, dI)) (ci := 1) (v := .ref a4) (C := RX1) (T := TX1) (N := 8) hx hb hts iwsX1_till hown hK hP 0 rfl rfl 5 (by decide) (hts (.fieldLink RX1 19 "BranchTimesModel" "joinAt" "[I") (by decide +kernel)) (fun _ h9 => h9) rfl dX1_till_10 ?_
  refine lv_iload_n hx hb dX1_till_13 rfl (lv_at hl 0 rfl) ?_
  refine va_iald (D := (dC, dI)) hx hb hK hP 4 0 rfl rfl (mPl_in hbr) dX1_till_14 ?_
  refine lv_iconst (v := -1) hx hb dX1_till_15 (by decide) ?_
  refine lv_icmp_ne (tgt := 21) hx hb dX1_till_16 (by decide) (fun c16 => ?_) (fun c16 => ?_)
  · refine lv_aload_n hx hb dX1_till_21 rfl (lv_at hl 1 rfl) ?_
    refine va_get (D := (dC, dI)) (ci := 1) (v := .ref a4) (C := RX1) (T := TX1) (N := 8) hx hb hts iwsX1_till hown hK hP 0 rfl rfl 5 (by decide) (hts (.fieldLink RX1 19 "BranchTimesModel" "joinAt" "[I") (by decide +kernel)) (fun _ h9 => h9) rfl dX1_till_22 ?_
    refine lv_iload_n hx hb dX1_till_25 rfl (lv_at hl 0 rfl) ?_
    refine va_iald (D := (dC, dI)) hx hb hK hP 4 0 rfl rfl (mPl_in hbr) dX1_till_26 ?_
    refine lv_bipush (v := 70) hx hb dX1_till_27 (by decide) ?_
    refine lv_iadd hx hb dX1_till_29 ?_
    refine lv_istore (lv' := [(4, .int ((jA (mPl g q).toNatClampNeg) + ((70 : Int32)))), (3, .int (mPl g q)), (0, .ref h), (1, .int g), (2, .int q)]) hx hb dX1_till_30 hl (by decide) rfl (fun ls hl => ?_)
    refine lv_aload_n hx hb dX1_till_32 rfl (lv_at hl 2 rfl) ?_
    refine va_get (D := (dC, dI)) (ci := 1) (v := .ref a5) (C := RX1) (T := TX1) (N := 8) hx hb hts iwsX1_till hown hK hP 0 rfl rfl 6 (by decide) (hts (.fieldLink RX1 22 "BranchTimesModel" "prunedTill" "[I") (by decide +kernel)) (fun _ h9 => h9) rfl dX1_till_33 ?_
    refine lv_iload_n hx hb dX1_till_36 rfl (lv_at hl 1 rfl) ?_
    refine va_iald (D := (dC, dI)) hx hb hK hP 5 0 rfl rfl (mPl_in hbr) dX1_till_37 ?_
    refine lv_iload hx hb dX1_till_38 (lv_at hl 0 rfl) ?_
    refine lv_icmp_ge (tgt := 52) hx hb dX1_till_40 (by decide) (fun c40 => ?_) (fun c40 => ?_)
    · refine lv_iload hx hb dX1_till_52 (lv_at hl 0 rfl) ?_
      refine lv_istore (lv' := [(4, .int ((jA (mPl g q).toNatClampNeg) + ((70 : Int32)))), (3, .int (mPl g q)), (0, .ref h), (1, .int g), (2, .int q)]) hx hb dX1_till_54 hl (by decide) rfl (fun ls hl => ?_)
      refine lv_aload_n hx hb dX1_till_56 rfl (lv_at hl 2 rfl) ?_
      refine va_get (D := (dC, dI)) (ci := 1) (v := .int tm) (C := RX1) (T := TX1) (N := 8) hx hb hts iwsX1_till hown hK hP 0 rfl rfl 1 (by decide) (hts (.fieldLink RX1 39 "BranchTimesModel" "time" "I") (by decide +kernel)) (fun _ h9 => h9) rfl dX1_till_57 ?_
      refine lv_iload hx hb dX1_till_60 (lv_at hl 0 rfl) ?_
      refine lv_icmp_ge (tgt := 70) hx hb dX1_till_62 (by decide) (fun c62 => ?_) (fun c62 => ?_)
      · refine lv_iconst (v := 0) hx hb dX1_till_70 (by decide) ?_
        have er : (0 : Int32) = mTi tm jA pT g q := by simp [mTi, mT, c16, c40, c62]
        exact W.iret (v := (0 : Int32)) hx hb hr (fun t ht hW => ⟨congrArg (fun z => Outcome.returned (some (Value.int z))) er, ht⟩) (fun q h => absurd h List.not_mem_nil) dX1_till_71
      · refine lv_iload hx hb dX1_till_65 (lv_at hl 0 rfl) ?_
        refine lv_goto (tgt := 71) hx hb dX1_till_67 (by decide) ?_
        have er : (jA (mPl g q).toNatClampNeg) + ((70 : Int32)) = mTi tm jA pT g q := by simp [mTi, mT, c16, c40, c62]
        exact W.iret (v := (jA (mPl g q).toNatClampNeg) + ((70 : Int32))) hx hb hr (fun t ht hW => ⟨congrArg (fun z => Outcome.returned (some (Value.int z))) er, ht⟩) (fun q h => absurd h List.not_mem_nil) dX1_till_71
    · refine lv_aload_n hx hb dX1_till_43 rfl (lv_at hl 2 rfl) ?_
      refine va_get (D := (dC, dI)) (ci := 1) (v := .ref a5) (C := RX1) (T := TX1) (N := 8) hx hb hts iwsX1_till hown hK hP 0 rfl rfl 6 (by decide) (hts (.fieldLink RX1 22 "BranchTimesModel" "prunedTill" "[I") (by decide +kernel)) (fun _ h9 => h9) rfl dX1_till_44 ?_
      refine lv_iload_n hx hb dX1_till_47 rfl (lv_at hl 1 rfl) ?_
      refine va_iald (D := (dC, dI)) hx hb hK hP 5 0 rfl rfl (mPl_in hbr) dX1_till_48 ?_
      refine lv_goto (tgt := 54) hx hb dX1_till_49 (by decide) ?_
      refine lv_istore (lv' := [(4, .int (pT (mPl g q).toNatClampNeg)), (3, .int (mPl g q)), (0, .ref h), (1, .int g), (2, .int q)]) hx hb dX1_till_54 hl (by decide) rfl (fun ls hl => ?_)
      refine lv_aload_n hx hb dX1_till_56 rfl (lv_at hl 2 rfl) ?_
      refine va_get (D := (dC, dI)) (ci := 1) (v := .int tm) (C := RX1) (T := TX1) (N := 8) hx hb hts iwsX1_till hown hK hP 0 rfl rfl 1 (by decide) (hts (.fieldLink RX1 39 "BranchTimesModel" "time" "I") (by decide +kernel)) (fun _ h9 => h9) rfl dX1_till_57 ?_
      refine lv_iload hx hb dX1_till_60 (lv_at hl 0 rfl) ?_
      refine lv_icmp_ge (tgt := 70) hx hb dX1_till_62 (by decide) (fun c62 => ?_) (fun c62 => ?_)
      · refine lv_iconst (v := 0) hx hb dX1_till_70 (by decide) ?_
        have er : (0 : Int32) = mTi tm jA pT g q := by simp [mTi, mT, c16, c40, c62]
        exact W.iret (v := (0 : Int32)) hx hb hr (fun t ht hW => ⟨congrArg (fun z => Outcome.returned (some (Value.int z))) er, ht⟩) (fun q h => absurd h List.not_mem_nil) dX1_till_71
      · refine lv_iload hx hb dX1_till_65 (lv_at hl 0 rfl) ?_
        refine lv_goto (tgt := 71) hx hb dX1_till_67 (by decide) ?_
        have er : pT (mPl g q).toNatClampNeg = mTi tm jA pT g q := by simp [mTi, mT, c16, c40, c62]
        exact W.iret (v := pT (mPl g q).toNatClampNeg) hx hb hr (fun t ht hW => ⟨congrArg (fun z => Outcome.returned (some (Value.int z))) er, ht⟩) (fun q h => absurd h List.not_mem_nil) dX1_till_71
  · refine lv_iconst (v := 0) hx hb dX1_till_19 (by decide) ?_
    have er : (0 : Int32) = mTi tm jA pT g q := by simp [mTi, mT, c16]
    exact W.iret (v := (0 : Int32)) hx hb hr (fun t ht hW => ⟨congrArg (fun z => Outcome.returned (some (Value.int z))) er, ht⟩) (fun q h => absurd h List.not_mem_nil) dX1_till_20
theorem hd_X1_till : yX1_till.cls = RX1 ∧ yX1_till.cls ≠ "java/lang/invoke/MethodHandle" ∧ yX1_till.cls ≠ "java/lang/invoke/VarHandle" ∧ (parseMethodDescriptor yX1_till.desc).map (fun d => d.parameters.length) = some 2 := by decide +kernel

theorem iwsX1_joined : ∀ w ∈ u_ws RX1 TX1 8, w ∈ wsX1_joined := fun _ h => List.mem_cons_of_mem _ (List.mem_append_right _ h)
set_option maxHeartbeats 4000000 in
set_option maxRecDepth 100000 in
theorem c_X1_joined (l : Launch) (dC : Nat → ClassId) (dI : Nat → Nat → Nat) (h a1 a2 a3 a4 a5 a6 : Nat) (cA : ClassId) (me tm : Int32) (hA rA lT jA pT cF : Nat → Int32) (g q : Int32) : Met l yX1_joined wsX1_joined ({ frames := 2, cells := 0, slots := 0, locals := 41 }) (PR [.ref h, .int g, .int q] dC dI cA (wM h a1 a2 a3 a4 a5 a6 cA me tm hA rA lT jA pT cF)) (QcRead (mJd tm jA pT g q)) 0 0 (fun _ => False) := by
  refine Met.ofW (cc := cX1_joined) (maxL := 3) (ret := some .int) (by decide) rfl ?_
  intro p e s m args below meth c s₁ B hml hv
  obtain ⟨rfl, hP, hK⟩ := hv
  have hx := B.exec
  have hb := B.bytes
  have hr := B.returns
  have hts := atoms_spec (ws := wsX1_joined) B.pre
  have hown : s.vm.findClass RX1 = some m.cls := findClass_of_methodNamed B.named
  have hlocks := B.notSynchronized
  have S : CallFix p m c cX1_joined 3 s ([.ref h, .int g, .int q] : List Value).toArray wsX1_joined RX1 := ⟨hx, hb, hml, hown, hts⟩
  have hl := lv_entry ([.ref h, .int g, .int q]) (n := 3) (Nat.le_of_ble_eq_true rfl)
  rw [lg_entry_eq]
  generalize (lg_sl ([.ref h, .int g, .int q]) ++ List.replicate (3 - (lg_sl ([.ref h, .int g, .int q])).length) Slot.unset).toArray = ls at hl ⊢
  have hl : lv_has ls 3 [(0, .ref h), (1, .int g), (2, .int q)] := hl
  refine lv_iload_n hx hb dX1_joined_0 rfl (lv_at hl 1 rfl) ?_
  refine lv_iload_n hx hb dX1_joined_1 rfl (lv_at hl 2 rfl) ?_
  refine rd_S (As := [.int g, .int q]) (rest := []) S (c_X1_isBranch l g q) gX1_joined_X1_isBranch rfl ⟨rfl, rfl⟩ hd_X1_isBranch ⟨Nat.le_of_ble_eq_true rfl, Nat.le_of_ble_eq_true rfl⟩ rfl hl.1 rfl (Nat.le_of_ble_eq_true rfl) dX1_joined_2 ⟨Nat.le_of_ble_eq_true rfl, Nat.le_of_ble_eq_true rfl⟩ ?_
  refine lv_if_eq (tgt := 17) hx hb dX1_joined_5 (by decide) (fun c5 => ?_) (fun c5 => ?_)
  · have b5 := bI_z c5
    refine lv_iconst (v := -1) hx hb dX1_joined_17 (by decide) ?_
    have er : (-1 : Int32) = mJd tm jA pT g q := by simp [mJd, b5]
    exact W.iret (v := (-1 : Int32)) hx hb hr (fun t ht hW => ⟨congrArg (fun z => Outcome.returned (some (Value.int z))) er, ht⟩) (fun q h => absurd h List.not_mem_nil) dX1_joined_18
  · have b5 := bI_nz c5
    refine lv_aload_n hx hb dX1_joined_8 rfl (lv_at hl 0 rfl) ?_
    refine lv_iload_n hx hb dX1_joined_9 rfl (lv_at hl 1 rfl) ?_
    refine lv_iload_n hx hb dX1_joined_10 rfl (lv_at hl 2 rfl) ?_
    refine rd_V (As := [.int g, .int q]) (rest := []) (ci := 1) (qc := (RX1, TX1, 8)) S (c_X1_till l dC dI h a1 a2 a3 a4 a5 a6 cA me tm hA rA lT jA pT cF g q b5) gX1_joined_X1_till rfl ⟨rfl, rfl⟩ hd_X1_till ⟨Nat.le_of_ble_eq_true rfl, Nat.le_of_ble_eq_true rfl⟩ hK hP rfl rfl rfl hl.1 rfl (Nat.le_of_ble_eq_true rfl) dX1_joined_11 ⟨Nat.le_of_ble_eq_true rfl, Nat.le_of_ble_eq_true rfl⟩ ?_
    refine lv_goto (tgt := 18) hx hb dX1_joined_14 (by decide) ?_
    have er : mTi tm jA pT g q = mJd tm jA pT g q := by simp [mJd, b5]
    exact W.iret (v := mTi tm jA pT g q) hx hb hr (fun t ht hW => ⟨congrArg (fun z => Outcome.returned (some (Value.int z))) er, ht⟩) (fun q h => absurd h List.not_mem_nil) dX1_joined_18
theorem hd_X1_joined : yX1_joined.cls = RX1 ∧ yX1_joined.cls ≠ "java/lang/invoke/MethodHandle" ∧ yX1_joined.cls ≠ "java/lang/invoke/VarHandle" ∧ (parseMethodDescriptor yX1_joined.desc).map (fun d => d.parameters.length) = some 2 := by decide +kernel

theorem iwsX1_cut : ∀ w ∈ u_ws RX1 TX1 8, w ∈ wsX1_cut := fun _ h => List.mem_cons_of_mem _ (List.mem_append_right _ h)
set_option maxHeartbeats 4000000 in
set_option maxRecDepth 100000 in
theorem c_X1_cut (l : Launch) (dC : Nat → ClassId) (dI : Nat → Nat → Nat) (h a1 a2 a3 a4 a5 a6 : Nat) (cA : ClassId) (me tm : Int32) (hA rA lT jA pT cF : Nat → Int32) (g q : Int32) : Met l yX1_cut wsX1_cut ({ frames := 2, cells := 0, slots := 0, locals := 41 }) (PR [.ref h, .int g, .int q] dC dI cA (wM h a1 a2 a3 a4 a5 a6 cA me tm hA rA lT jA pT cF)) (QcRead (mCu tm jA pT cF g q)) 0 0 (fun _ => False) := by
  refine Met.ofW (cc := cX1_cut) (maxL := 3) (ret := some .int) (by decide) rfl ?_
  intro p e s m args below meth c s₁ B hml hv
  obtain ⟨rfl, hP, hK⟩ := hv
  have hx := B.exec
  have hb := B.bytes
  have hr := B.returns
  have hts := atoms_spec (ws := wsX1_cut) B.pre
  have hown : s.vm.findClass RX1 = some m.cls := findClass_of_methodNamed B.named
  have hlocks := B.notSynchronized
  have S : CallFix p m c cX1_cut 3 s ([.ref h, .int g, .int q] : List Value).toArray wsX1_cut RX1 := ⟨hx, hb, hml, hown, hts⟩
  have hl := lv_entry ([.ref h, .int g, .int q]) (n := 3) (Nat.le_of_ble_eq_true rfl)
  rw [lg_entry_eq]
  generalize (lg_sl ([.ref h, .int g, .int q]) ++ List.replicate (3 - (lg_sl ([.ref h, .int g, .int q])).length) Slot.unset).toArray = ls at hl ⊢
  have hl : lv_has ls 3 [(0, .ref h), (1, .int g), (2, .int q)] := hl
  refine lv_iload_n hx hb dX1_cut_0 rfl (lv_at hl 1 rfl) ?_
  refine lv_iload_n hx hb dX1_cut_1 rfl (lv_at hl 2 rfl) ?_
  refine rd_S (As := [.int g, .int q]) (rest := []) S (c_X1_isBranch l g q) gX1_cut_X1_isBranch rfl ⟨rfl, rfl⟩ hd_X1_isBranch ⟨Nat.le_of_ble_eq_true rfl, Nat.le_of_ble_eq_true rfl⟩ rfl hl.1 rfl (Nat.le_of_ble_eq_true rfl) dX1_cut_2 ⟨Nat.le_of_ble_eq_true rfl, Nat.le_of_ble_eq_true rfl⟩ ?_
  refine lv_if_eq (tgt := 13) hx hb dX1_cut_5 (by decide) (fun c5 => ?_) (fun c5 => ?_)
  · have b5 := bI_z c5
    refine lv_iconst (v := -1) hx hb dX1_cut_13 (by decide) ?_
    have er : (-1 : Int32) = mCu tm jA pT cF g q := by simp [mCu, b5]
    exact W.iret (v := (-1 : Int32)) hx hb hr (fun t ht hW => ⟨congrArg (fun z => Outcome.returned (some (Value.int z))) er, ht⟩) (fun q h => absurd h List.not_mem_nil) dX1_cut_14
  · have b5 := bI_nz c5
    refine lv_iload_n hx hb dX1_cut_8 rfl (lv_at hl 2 rfl) ?_
    refine lv_iconst (v := -1) hx hb dX1_cut_9 (by decide) ?_
    refine lv_icmp_ne (tgt := 15) hx hb dX1_cut_10 (by decide) (fun c10 => ?_) (fun c10 => ?_)
    · refine lv_aload_n hx hb dX1_cut_15 rfl (lv_at hl 0 rfl) ?_
      refine lv_iload_n hx hb dX1_cut_16 rfl (lv_at hl 1 rfl) ?_
      refine lv_iconst (v := -1) hx hb dX1_cut_17 (by decide) ?_
      refine rd_V (As := [.int g, .int ((-1 : Int32))]) (rest := []) (ci := 1) (qc := (RX1, TX1, 8)) S (c_X1_till l dC dI h a1 a2 a3 a4 a5 a6 cA me tm hA rA lT jA pT cF g ((-1 : Int32)) (mBr_st (mBr_G b5))) gX1_cut_X1_till rfl ⟨rfl, rfl⟩ hd_X1_till ⟨Nat.le_of_ble_eq_true rfl, Nat.le_of_ble_eq_true rfl⟩ hK hP rfl rfl rfl hl.1 rfl (Nat.le_of_ble_eq_true rfl) dX1_cut_18 ⟨Nat.le_of_ble_eq_true rfl, Nat.le_of_ble_eq_true rfl⟩ ?_
      refine lv_if_eq (tgt := 39) hx hb dX1_cut_21 (by decide) (fun c21 => ?_) (fun c21 => ?_)
      · refine lv_iconst (v := 0) hx hb dX1_cut_39 (by decide) ?_
        refine lv_goto (tgt := 54) hx hb dX1_cut_40 (by decide) ?_
        have er : (0 : Int32) = mCu tm jA pT cF g q := by simp [mCu, b5, c10, c21]
        exact W.iret (v := (0 : Int32)) hx hb hr (fun t ht hW => ⟨congrArg (fun z => Outcome.returned (some (Value.int z))) er, ht⟩) (fun q h => absurd h List.not_mem_nil) dX1_cut_54
      · refine lv_aload_n hx hb dX1_cut_24 rfl (lv_at hl 0 rfl) ?_
        refine va_get (D := (dC, dI)) (ci := 1) (v := .ref a6) (C := RX1) (T := TX1) (N := 8) hx hb hts iwsX1_cut hown hK hP 0 rfl rfl 7 (by decide) (hts (.fieldLink RX1 25 "BranchTimesModel" "cutFrom" "[I") (by decide +kernel)) (fun _ h9 => h9) rfl dX1_cut_25 ?_
        refine lv_bipush (v := 16) hx hb dX1_cut_28 (by decide) ?_
        refine lv_iload_n hx hb dX1_cut_30 rfl (lv_at hl 1 rfl) ?_
        refine lv_imul hx hb dX1_cut_31 ?_
        refine lv_iload_n hx hb dX1_cut_32 rfl (lv_at hl 2 rfl) ?_
        refine lv_iadd hx hb dX1_cut_33 ?_
        refine lv_top (x' := mCp g q) (rfl) ?_
        refine va_iald (D := (dC, dI)) hx hb hK hP 6 0 rfl rfl (mCp_in (mBr_G b5) (mSrc b5 c10)) dX1_cut_34 ?_
        refine lv_iconst (v := -1) hx hb dX1_cut_35 (by decide) ?_
        refine lv_icmp_ne (tgt := 43) hx hb dX1_cut_36 (by decide) (fun c36 => ?_) (fun c36 => ?_)
        · refine lv_aload_n hx hb dX1_cut_43 rfl (lv_at hl 0 rfl) ?_
          refine va_get (D := (dC, dI)) (ci := 1) (v := .ref a6) (C := RX1) (T := TX1) (N := 8) hx hb hts iwsX1_cut hown hK hP 0 rfl rfl 7 (by decide) (hts (.fieldLink RX1 25 "BranchTimesModel" "cutFrom" "[I") (by decide +kernel)) (fun _ h9 => h9) rfl dX1_cut_44 ?_
          refine lv_bipush (v := 16) hx hb dX1_cut_47 (by decide) ?_
          refine lv_iload_n hx hb dX1_cut_49 rfl (lv_at hl 1 rfl) ?_
          refine lv_imul hx hb dX1_cut_50 ?_
          refine lv_iload_n hx hb dX1_cut_51 rfl (lv_at hl 2 rfl) ?_
          refine lv_iadd hx hb dX1_cut_52 ?_
          refine lv_top (x' := mCp g q) (rfl) ?_
          refine va_iald (D := (dC, dI)) hx hb hK hP 6 0 rfl rfl (mCp_in (mBr_G b5) (mSrc b5 c10)) dX1_cut_53 ?_
          have er : cF (mCp g q).toNatClampNeg = mCu tm jA pT cF g q := by simp [mCu, b5, c10, c21, c36]
          exact W.iret (v := cF (mCp g q).toNatClampNeg) hx hb hr (fun t ht hW => ⟨congrArg (fun z => Outcome.returned (some (Value.int z))) er, ht⟩) (fun q h => absurd h List.not_mem_nil) dX1_cut_54
        · refine lv_iconst (v := 0) hx hb dX1_cut_39 (by decide) ?_
          refine lv_goto (tgt := 54) hx hb dX1_cut_40 (by decide) ?_
          have er : (0 : Int32) = mCu tm jA pT cF g q := by simp [mCu, b5, c10, c21, c36]
          exact W.iret (v := (0 : Int32)) hx hb hr (fun t ht hW => ⟨congrArg (fun z => Outcome.returned (some (Value.int z))) er, ht⟩) (fun q h => absurd h List.not_mem_nil) dX1_cut_54
    · refine lv_iconst (v := -1) hx hb dX1_cut_13 (by decide) ?_
      have er : (-1 : Int32) = mCu tm jA pT cF g q := by simp [mCu, b5, c10]
      exact W.iret (v := (-1 : Int32)) hx hb hr (fun t ht hW => ⟨congrArg (fun z => Outcome.returned (some (Value.int z))) er, ht⟩) (fun q h => absurd h List.not_mem_nil) dX1_cut_14
theorem hd_X1_cut : yX1_cut.cls = RX1 ∧ yX1_cut.cls ≠ "java/lang/invoke/MethodHandle" ∧ yX1_cut.cls ≠ "java/lang/invoke/VarHandle" ∧ (parseMethodDescriptor yX1_cut.desc).map (fun d => d.parameters.length) = some 2 := by decide +kernel

theorem iwsX1_isCutOff : ∀ w ∈ u_ws RX1 TX1 8, w ∈ wsX1_isCutOff := fun _ h => List.mem_cons_of_mem _ (List.mem_append_right _ h)
set_option maxHeartbeats 4000000 in
set_option maxRecDepth 100000 in
theorem c_X1_isCutOff (l : Launch) (dC : Nat → ClassId) (dI : Nat → Nat → Nat) (h a1 a2 a3 a4 a5 a6 : Nat) (cA : ClassId) (me tm : Int32) (hA rA lT jA pT cF : Nat → Int32) (g q : Int32) (hg : xG g = true) (hq : xSrc q = true) : Met l yX1_isCutOff wsX1_isCutOff ({ frames := 0, cells := 0, slots := 0, locals := 0 }) (PR [.ref h, .int g, .int q] dC dI cA (wM h a1 a2 a3 a4 a5 a6 cA me tm hA rA lT jA pT cF)) (QcRead (bI (mCut tm cF g q))) 0 0 (fun _ => False) := by
  refine Met.ofW (cc := cX1_isCutOff) (maxL := 3) (ret := some .boolean) (by decide) rfl ?_
  intro p e s m args below meth c s₁ B hml hv
  obtain ⟨rfl, hP, hK⟩ := hv
  have hx := B.exec
  have hb := B.bytes
  have hr := B.returns
  have hts := atoms_spec (ws := wsX1_isCutOff) B.pre
  have hown : s.vm.findClass RX1 = some m.cls := findClass_of_methodNamed B.named
  have hlocks := B.notSynchronized
  have S : CallFix p m c cX1_isCutOff 3 s ([.ref h, .int g, .int q] : List Value).toArray wsX1_isCutOff RX1 := ⟨hx, hb, hml, hown, hts⟩
  have hl := lv_entry ([.ref h, .int g, .int q]) (n := 3) (Nat.le_of_ble_eq_true rfl)
  rw [lg_entry_eq]
  generalize (lg_sl ([.ref h, .int g, .int q]) ++ List.replicate (3 - (lg_sl ([.ref h, .int g, .int q])).length) Slot.unset).toArray = ls at hl ⊢
  have hl : lv_has ls 3 [(0, .ref h), (1, .int g), (2, .int q)] := hl
  refine lv_aload_n hx hb dX1_isCutOff_0 rfl (lv_at hl 0 rfl) ?_
  refine va_get (D := (dC, dI)) (ci := 1) (v := .ref a6) (C := RX1) (T := TX1) (N := 8) hx hb hts iwsX1_isCutOff hown hK hP 0 rfl rfl 7 (by decide) (hts (.fieldLink RX1 25 "BranchTimesModel" "cutFrom" "[I") (by decide +kernel)) (fun _ h9 => h9) rfl dX1_isCutOff_1 ?_
  refine lv_bipush (v := 16) hx hb dX1_isCutOff_4 (by decide) ?_
  refine lv_iload_n hx hb dX1_isCutOff_6 rfl (lv_at hl 1 rfl) ?_
  refine lv_imul hx hb dX1_isCutOff_7 ?_
  refine lv_iload_n hx hb dX1_isCutOff_8 rfl (lv_at hl 2 rfl) ?_
  refine lv_iadd hx hb dX1_isCutOff_9 ?_
  refine lv_top (x' := mCp g q) (rfl) ?_
  refine va_iald (D := (dC, dI)) hx hb hK hP 6 0 rfl rfl (mCp_in hg hq) dX1_isCutOff_10 ?_
  refine lv_iconst (v := -1) hx hb dX1_isCutOff_11 (by decide) ?_
  refine lv_icmp_eq (tgt := 37) hx hb dX1_isCutOff_12 (by decide) (fun c12 => ?_) (fun c12 => ?_)
  · refine lv_iconst (v := 0) hx hb dX1_isCutOff_37 (by decide) ?_
    have er : (0 : Int32) = bI (mCut tm cF g q) := by simp [mCut, bI, c12]
    exact W.zret (v := (0 : Int32)) (ty := .boolean) hx hb hr rfl (fun t ht hW => ⟨congrArg (fun z => Outcome.returned (some (Value.int z))) er, ht⟩) (fun q h => absurd h List.not_mem_nil) dX1_isCutOff_38
  · refine lv_aload_n hx hb dX1_isCutOff_15 rfl (lv_at hl 0 rfl) ?_
    refine va_get (D := (dC, dI)) (ci := 1) (v := .int tm) (C := RX1) (T := TX1) (N := 8) hx hb hts iwsX1_isCutOff hown hK hP 0 rfl rfl 1 (by decide) (hts (.fieldLink RX1 39 "BranchTimesModel" "time" "I") (by decide +kernel)) (fun _ h9 => h9) rfl dX1_isCutOff_16 ?_
    refine lv_aload_n hx hb dX1_isCutOff_19 rfl (lv_at hl 0 rfl) ?_
    refine va_get (D := (dC, dI)) (ci := 1) (v := .ref a6) (C := RX1) (T := TX1) (N := 8) hx hb hts iwsX1_isCutOff hown hK hP 0 rfl rfl 7 (by decide) (hts (.fieldLink RX1 25 "BranchTimesModel" "cutFrom" "[I") (by decide +kernel)) (fun _ h9 => h9) rfl dX1_isCutOff_20 ?_
    refine lv_bipush (v := 16) hx hb dX1_isCutOff_23 (by decide) ?_
    refine lv_iload_n hx hb dX1_isCutOff_25 rfl (lv_at hl 1 rfl) ?_
    refine lv_imul hx hb dX1_isCutOff_26 ?_
    refine lv_iload_n hx hb dX1_isCutOff_27 rfl (lv_at hl 2 rfl) ?_
    refine lv_iadd hx hb dX1_isCutOff_28 ?_
    refine lv_top (x' := mCp g q) (rfl) ?_
    refine va_iald (D := (dC, dI)) hx hb hK hP 6 0 rfl rfl (mCp_in hg hq) dX1_isCutOff_29 ?_
    refine lv_icmp_lt (tgt := 37) hx hb dX1_isCutOff_30 (by decide) (fun c30 => ?_) (fun c30 => ?_)
    · refine lv_iconst (v := 0) hx hb dX1_isCutOff_37 (by decide) ?_
      have er : (0 : Int32) = bI (mCut tm cF g q) := by simp [mCut, bI, c12, c30]
      exact W.zret (v := (0 : Int32)) (ty := .boolean) hx hb hr rfl (fun t ht hW => ⟨congrArg (fun z => Outcome.returned (some (Value.int z))) er, ht⟩) (fun q h => absurd h List.not_mem_nil) dX1_isCutOff_38
    · refine lv_iconst (v := 1) hx hb dX1_isCutOff_33 (by decide) ?_
      refine lv_goto (tgt := 38) hx hb dX1_isCutOff_34 (by decide) ?_
      have er : (1 : Int32) = bI (mCut tm cF g q) := by simp [mCut, bI, c12, c30]
      exact W.zret (v := (1 : Int32)) (ty := .boolean) hx hb hr rfl (fun t ht hW => ⟨congrArg (fun z => Outcome.returned (some (Value.int z))) er, ht⟩) (fun q h => absurd h List.not_mem_nil) dX1_isCutOff_38
theorem hd_X1_isCutOff : yX1_isCutOff.cls = RX1 ∧ yX1_isCutOff.cls ≠ "java/lang/invoke/MethodHandle" ∧ yX1_isCutOff.cls ≠ "java/lang/invoke/VarHandle" ∧ (parseMethodDescriptor yX1_isCutOff.desc).map (fun d => d.parameters.length) = some 2 := by decide +kernel

theorem iwsX1_goes : ∀ w ∈ u_ws RX1 TX1 8, w ∈ wsX1_goes := fun _ h => List.mem_cons_of_mem _ (List.mem_append_right _ h)
set_option maxHeartbeats 4000000 in
set_option maxRecDepth 100000 in
theorem lp_X1_goes_35 {p : Program} {e : Env} {s : State} {m : MethodId} {args : Array Value} {below : List Frame} {meth : Method} {c : Code} {cells slots : Nat} {Q : State → Prop} {H : Heap} {locs : List Loc} (l : Launch) (dC : Nat → ClassId) (dI : Nat → Nat → Nat) (h a1 a2 a3 a4 a5 a6 : Nat) (cA : ClassId) (me tm : Int32) (hA rA lT jA pT cF : Nat → Int32) (g : Int32) (own : Bool) (hg : xG g = true) (S : CallFix p m c cX1_goes 6 s args wsX1_goes RX1) (hK : va_K (dC, dI) vwCl [(cA, .int)] s) (hP : va_P (dC, dI) vwCl (wM h a1 a2 a3 a4 a5 a6 cA me tm hA rA lT jA pT cF) H) (hcs : cells + 0 ≤ 0 ∧ slots + 0 ≤ 0) (k : ∀ (ls : Array Slot), lv_has ls 6 [(0, .ref h), (1, .int g), (2, .int (bI own)), (3, .int (bitsI (mGoq own tm jA pT cF g) 16)), (4, .int (nI 16))] → W p l e ({ frames := 2, cells := 0, slots := 0, locals := 42 }) s m args below meth c H locs cells slots Q (F0 m 100 ls [])) : ∀ (n i : Nat), i + n = 16 → ∀ (ls : Array Slot), lv_has ls 6 [(0, .ref h), (1, .int g), (2, .int (bI own)), (3, .int (bitsI (mGoq own tm jA pT cF g) i)), (4, .int (nI i))] → W p l e ({ frames := 2, cells := 0, slots := 0, locals := 42 }) s m args below meth c H locs cells slots Q (F0 m 35 ls []) := by
  obtain ⟨hx, hb, hml, hown, hts⟩ := id S
  intro n
  induction n with
  | zero =>
    intro i hi ls hl
    obtain rfl : i = 16 := by omega
    refine lv_iload hx hb dX1_goes_35 (lv_at hl 4 rfl) ?_
    refine lv_bipush (v := 16) hx hb dX1_goes_37 (by decide) ?_
    refine lv_icmp_ge (tgt := 100) hx hb dX1_goes_39 (by decide) (fun c39 => ?_) (fun c39 => ?_)
    · exact k ls (lv_sub hl [0, 1, 2, 3, 4] rfl)
    · exact absurd c39 (by decide)
  | succ n ih =>
    intro i hi ls hl
    have hlt : i < 16 := by omega
    have hcl : (nI i).toNatClampNeg = i := nI_clamp (by omega)
    refine lv_iload hx hb dX1_goes_35 (lv_at hl 4 rfl) ?_
    refine lv_bipush (v := 16) hx hb dX1_goes_37 (by decide) ?_
    refine lv_icmp_ge (tgt := 100) hx hb dX1_goes_39 (by decide) (fun c39 => ?_) (fun c39 => ?_)
    · exact absurd c39 (nI_ge hlt (by decide))
    · refine lv_iload_n hx hb dX1_goes_42 rfl (lv_at hl 2 rfl) ?_
      refine lv_if_ne (tgt := 75) hx hb dX1_goes_43 (by decide) (fun c43 => ?_) (fun c43 => ?_)
      · have b43 := bI_nz c43
        refine lv_iconst (v := 1) hx hb dX1_goes_75 (by decide) ?_
        refine lv_goto (tgt := 80) hx hb dX1_goes_76 (by decide) ?_
        refine lv_istore (lv' := [(5, .int ((1 : Int32))), (0, .ref h), (1, .int g), (2, .int (bI own)), (3, .int (bitsI (mGoq own tm jA pT cF g) i)), (4, .int (nI i))]) hx hb dX1_goes_80 hl (by decide) rfl (fun ls hl => ?_)
        refine lv_iload hx hb dX1_goes_82 (lv_at hl 0 rfl) ?_
        refine lv_if_eq (tgt := 94) hx hb dX1_goes_84 (by decide) (fun c84 => ?_) (fun c84 => ?_)
        · exact absurd c84 (by decide)
        · clear c84
          refine lv_iload_n hx hb dX1_goes_87 rfl (lv_at hl 4 rfl) ?_
          refine lv_iconst (v := 1) hx hb dX1_goes_88 (by decide) ?_
          refine lv_iload hx hb dX1_goes_89 (lv_at hl 5 rfl) ?_
          refine lv_ishl hx hb dX1_goes_91 ?_
          refine lv_ior hx hb dX1_goes_92 ?_
          refine lv_istore_n (lv' := [(3, .int ((bitsI (mGoq own tm jA pT cF g) i) ||| (((1 : Int32)) <<< ((nI i) &&& 31)))), (5, .int ((1 : Int32))), (0, .ref h), (1, .int g), (2, .int (bI own)), (4, .int (nI i))]) hx hb dX1_goes_93 rfl hl (by decide) rfl (fun ls hl => ?_)
          refine lv_iinc (v := nI (i + 1)) (lv' := [(4, .int (nI (i + 1))), (3, .int ((bitsI (mGoq own tm jA pT cF g) i) ||| (((1 : Int32)) <<< ((nI i) &&& 31)))), (5, .int ((1 : Int32))), (0, .ref h), (1, .int g), (2, .int (bI own))]) hx hb dX1_goes_94 hl (k := 5) rfl (nI_1 _) (by decide) rfl (fun ls hl => ?_)
          refine lv_goto (tgt := 35) hx hb dX1_goes_97 (by decide) ?_
          exact ih (i + 1) (by omega) ls (by rw [bitsI_t (q := mGoq own tm jA pT cF g) (k := i) (by simp [mGoq, b43])]; exact lv_sub hl [3, 4, 5, 1, 0] rfl)
      · have b43 := bI_z c43
        refine lv_aload_n hx hb dX1_goes_46 rfl (lv_at hl 0 rfl) ?_
        refine lv_iload_n hx hb dX1_goes_47 rfl (lv_at hl 1 rfl) ?_
        refine lv_iload hx hb dX1_goes_48 (lv_at hl 4 rfl) ?_
        refine rd_V (As := [.int g, .int (nI i)]) (rest := []) (ci := 1) (qc := (RX1, TX1, 8)) S (c_X1_till l dC dI h a1 a2 a3 a4 a5 a6 cA me tm hA rA lT jA pT cF g (nI i) (mBr_nb hg hlt)) gX1_goes_X1_till rfl ⟨rfl, rfl⟩ hd_X1_till ⟨Nat.le_of_ble_eq_true rfl, Nat.le_of_ble_eq_true rfl⟩ hK hP rfl rfl rfl hl.1 rfl (Nat.le_of_ble_eq_true rfl) dX1_goes_50 hcs ?_
        refine lv_if_gt (tgt := 75) hx hb dX1_goes_53 (by decide) (fun c53 => ?_) (fun c53 => ?_)
        · refine lv_iconst (v := 1) hx hb dX1_goes_75 (by decide) ?_
          refine lv_goto (tgt := 80) hx hb dX1_goes_76 (by decide) ?_
          refine lv_istore (lv' := [(5, .int ((1 : Int32))), (0, .ref h), (1, .int g), (2, .int (bI own)), (3, .int (bitsI (mGoq own tm jA pT cF g) i)), (4, .int (nI i))]) hx hb dX1_goes_80 hl (by decide) rfl (fun ls hl => ?_)
          refine lv_iload hx hb dX1_goes_82 (lv_at hl 0 rfl) ?_
          refine lv_if_eq (tgt := 94) hx hb dX1_goes_84 (by decide) (fun c84 => ?_) (fun c84 => ?_)
          · exact absurd c84 (by decide)
          · clear c84
            refine lv_iload_n hx hb dX1_goes_87 rfl (lv_at hl 4 rfl) ?_
            refine lv_iconst (v := 1) hx hb dX1_goes_88 (by decide) ?_
            refine lv_iload hx hb dX1_goes_89 (lv_at hl 5 rfl) ?_
            refine lv_ishl hx hb dX1_goes_91 ?_
            refine lv_ior hx hb dX1_goes_92 ?_
            refine lv_istore_n (lv' := [(3, .int ((bitsI (mGoq own tm jA pT cF g) i) ||| (((1 : Int32)) <<< ((nI i) &&& 31)))), (5, .int ((1 : Int32))), (0, .ref h), (1, .int g), (2, .int (bI own)), (4, .int (nI i))]) hx hb dX1_goes_93 rfl hl (by decide) rfl (fun ls hl => ?_)
            refine lv_iinc (v := nI (i + 1)) (lv' := [(4, .int (nI (i + 1))), (3, .int ((bitsI (mGoq own tm jA pT cF g) i) ||| (((1 : Int32)) <<< ((nI i) &&& 31)))), (5, .int ((1 : Int32))), (0, .ref h), (1, .int g), (2, .int (bI own))]) hx hb dX1_goes_94 hl (k := 5) rfl (nI_1 _) (by decide) rfl (fun ls hl => ?_)
            refine lv_goto (tgt := 35) hx hb dX1_goes_97 (by decide) ?_
            exact ih (i + 1) (by omega) ls (by rw [bitsI_t (q := mGoq own tm jA pT cF g) (k := i) (by simp [mGoq, b43, c53])]; exact lv_sub hl [3, 4, 5, 1, 0] rfl)
        · refine lv_aload_n hx hb dX1_goes_56 rfl (lv_at hl 0 rfl) ?_
          refine lv_iload_n hx hb dX1_goes_57 rfl (lv_at hl 1 rfl) ?_
          refine lv_iconst (v := -1) hx hb dX1_goes_58 (by decide) ?_
          refine rd_V (As := [.int g, .int ((-1 : Int32))]) (rest := []) (ci := 1) (qc := (RX1, TX1, 8)) S (c_X1_till l dC dI h a1 a2 a3 a4 a5 a6 cA me tm hA rA lT jA pT cF g ((-1 : Int32)) (mBr_st hg)) gX1_goes_X1_till rfl ⟨rfl, rfl⟩ hd_X1_till ⟨Nat.le_of_ble_eq_true rfl, Nat.le_of_ble_eq_true rfl⟩ hK hP rfl rfl rfl hl.1 rfl (Nat.le_of_ble_eq_true rfl) dX1_goes_59 hcs ?_
          refine lv_if_le (tgt := 79) hx hb dX1_goes_62 (by decide) (fun c62 => ?_) (fun c62 => ?_)
          · refine lv_iconst (v := 0) hx hb dX1_goes_79 (by decide) ?_
            refine lv_istore (lv' := [(5, .int ((0 : Int32))), (0, .ref h), (1, .int g), (2, .int (bI own)), (3, .int (bitsI (mGoq own tm jA pT cF g) i)), (4, .int (nI i))]) hx hb dX1_goes_80 hl (by decide) rfl (fun ls hl => ?_)
            refine lv_iload hx hb dX1_goes_82 (lv_at hl 0 rfl) ?_
            refine lv_if_eq (tgt := 94) hx hb dX1_goes_84 (by decide) (fun c84 => ?_) (fun c84 => ?_)
            · clear c84
              refine lv_iinc (v := nI (i + 1)) (lv' := [(4, .int (nI (i + 1))), (5, .int ((0 : Int32))), (0, .ref h), (1, .int g), (2, .int (bI own)), (3, .int (bitsI (mGoq own tm jA pT cF g) i))]) hx hb dX1_goes_94 hl (k := 5) rfl (nI_1 _) (by decide) rfl (fun ls hl => ?_)
              refine lv_goto (tgt := 35) hx hb dX1_goes_97 (by decide) ?_
              exact ih (i + 1) (by omega) ls (by rw [bitsI_f (q := mGoq own tm jA pT cF g) (k := i) (by simp [mGoq, b43, c53, c62])]; exact lv_sub hl [2, 3, 4, 5, 0] rfl)
            · exact absurd c84 (by decide)
          · refine lv_aload_n hx hb dX1_goes_65 rfl (lv_at hl 0 rfl) ?_
            refine lv_iload_n hx hb dX1_goes_66 rfl (lv_at hl 1 rfl) ?_
            refine lv_iload hx hb dX1_goes_67 (lv_at hl 4 rfl) ?_
            refine rd_V (As := [.int g, .int (nI i)]) (rest := []) (ci := 1) (qc := (RX1, TX1, 8)) S (c_X1_isCutOff l dC dI h a1 a2 a3 a4 a5 a6 cA me tm hA rA lT jA pT cF g (nI i) hg (xSrc_nI hlt)) gX1_goes_X1_isCutOff rfl ⟨rfl, rfl⟩ hd_X1_isCutOff ⟨Nat.le_of_ble_eq_true rfl, Nat.le_of_ble_eq_true rfl⟩ hK hP rfl rfl rfl hl.1 rfl (Nat.le_of_ble_eq_true rfl) dX1_goes_69 hcs ?_
            refine lv_if_ne (tgt := 79) hx hb dX1_goes_72 (by decide) (fun c72 => ?_) (fun c72 => ?_)
            · have b72 := bI_nz c72
              refine lv_iconst (v := 0) hx hb dX1_goes_79 (by decide) ?_
              refine lv_istore (lv' := [(5, .int ((0 : Int32))), (0, .ref h), (1, .int g), (2, .int (bI own)), (3, .int (bitsI (mGoq own tm jA pT cF g) i)), (4, .int (nI i))]) hx hb dX1_goes_80 hl (by decide) rfl (fun ls hl => ?_)
              refine lv_iload hx hb dX1_goes_82 (lv_at hl 0 rfl) ?_
              refine lv_if_eq (tgt := 94) hx hb dX1_goes_84 (by decide) (fun c84 => ?_) (fun c84 => ?_)
              · clear c84
                refine lv_iinc (v := nI (i + 1)) (lv' := [(4, .int (nI (i + 1))), (5, .int ((0 : Int32))), (0, .ref h), (1, .int g), (2, .int (bI own)), (3, .int (bitsI (mGoq own tm jA pT cF g) i))]) hx hb dX1_goes_94 hl (k := 5) rfl (nI_1 _) (by decide) rfl (fun ls hl => ?_)
                refine lv_goto (tgt := 35) hx hb dX1_goes_97 (by decide) ?_
                exact ih (i + 1) (by omega) ls (by rw [bitsI_f (q := mGoq own tm jA pT cF g) (k := i) (by simp [mGoq, b43, c53, c62, b72])]; exact lv_sub hl [2, 3, 4, 5, 0] rfl)
              · exact absurd c84 (by decide)
            · have b72 := bI_z c72
              refine lv_iconst (v := 1) hx hb dX1_goes_75 (by decide) ?_
              refine lv_goto (tgt := 80) hx hb dX1_goes_76 (by decide) ?_
              refine lv_istore (lv' := [(5, .int ((1 : Int32))), (0, .ref h), (1, .int g), (2, .int (bI own)), (3, .int (bitsI (mGoq own tm jA pT cF g) i)), (4, .int (nI i))]) hx hb dX1_goes_80 hl (by decide) rfl (fun ls hl => ?_)
              refine lv_iload hx hb dX1_goes_82 (lv_at hl 0 rfl) ?_
              refine lv_if_eq (tgt := 94) hx hb dX1_goes_84 (by decide) (fun c84 => ?_) (fun c84 => ?_)
              · exact absurd c84 (by decide)
              · clear c84
                refine lv_iload_n hx hb dX1_goes_87 rfl (lv_at hl 4 rfl) ?_
                refine lv_iconst (v := 1) hx hb dX1_goes_88 (by decide) ?_
                refine lv_iload hx hb dX1_goes_89 (lv_at hl 5 rfl) ?_
                refine lv_ishl hx hb dX1_goes_91 ?_
                refine lv_ior hx hb dX1_goes_92 ?_
                refine lv_istore_n (lv' := [(3, .int ((bitsI (mGoq own tm jA pT cF g) i) ||| (((1 : Int32)) <<< ((nI i) &&& 31)))), (5, .int ((1 : Int32))), (0, .ref h), (1, .int g), (2, .int (bI own)), (4, .int (nI i))]) hx hb dX1_goes_93 rfl hl (by decide) rfl (fun ls hl => ?_)
                refine lv_iinc (v := nI (i + 1)) (lv' := [(4, .int (nI (i + 1))), (3, .int ((bitsI (mGoq own tm jA pT cF g) i) ||| (((1 : Int32)) <<< ((nI i) &&& 31)))), (5, .int ((1 : Int32))), (0, .ref h), (1, .int g), (2, .int (bI own))]) hx hb dX1_goes_94 hl (k := 5) rfl (nI_1 _) (by decide) rfl (fun ls hl => ?_)
                refine lv_goto (tgt := 35) hx hb dX1_goes_97 (by decide) ?_
                exact ih (i + 1) (by omega) ls (by rw [bitsI_t (q := mGoq own tm jA pT cF g) (k := i) (by simp [mGoq, b43, c53, c62, b72])]; exact lv_sub hl [3, 4, 5, 1, 0] rfl)
set_option maxHeartbeats 4000000 in
set_option maxRecDepth 100000 in
theorem c_X1_goes (l : Launch) (dC : Nat → ClassId) (dI : Nat → Nat → Nat) (h a1 a2 a3 a4 a5 a6 : Nat) (cA : ClassId) (me tm : Int32) (hA rA lT jA pT cF : Nat → Int32) (g : Int32) : Met l yX1_goes wsX1_goes ({ frames := 2, cells := 0, slots := 0, locals := 42 }) (PR [.ref h, .int g] dC dI cA (wM h a1 a2 a3 a4 a5 a6 cA me tm hA rA lT jA pT cF)) (QcRead (mGoes me tm hA rA lT jA pT cF g)) 0 0 (fun _ => False) := by
  refine Met.ofW (cc := cX1_goes) (maxL := 6) (ret := some .int) (by decide) rfl ?_
  intro p e s m args below meth c s₁ B hml hv
  obtain ⟨rfl, hP, hK⟩ := hv
  have hx := B.exec
  have hb := B.bytes
  have hr := B.returns
  have hts := atoms_spec (ws := wsX1_goes) B.pre
  have hown : s.vm.findClass RX1 = some m.cls := findClass_of_methodNamed B.named
  have hlocks := B.notSynchronized
  have S : CallFix p m c cX1_goes 6 s ([.ref h, .int g] : List Value).toArray wsX1_goes RX1 := ⟨hx, hb, hml, hown, hts⟩
  have hl := lv_entry ([.ref h, .int g]) (n := 6) (Nat.le_of_ble_eq_true rfl)
  rw [lg_entry_eq]
  generalize (lg_sl ([.ref h, .int g]) ++ List.replicate (6 - (lg_sl ([.ref h, .int g])).length) Slot.unset).toArray = ls at hl ⊢
  have hl : lv_has ls 6 [(0, .ref h), (1, .int g)] := hl
  refine lv_iload_n hx hb dX1_goes_0 rfl (lv_at hl 1 rfl) ?_
  refine rd_S (As := [.int g]) (rest := []) S (c_X1_isGroup l g) gX1_goes_X1_isGroup rfl ⟨rfl, rfl⟩ hd_X1_isGroup ⟨Nat.le_of_ble_eq_true rfl, Nat.le_of_ble_eq_true rfl⟩ rfl hl.1 rfl (Nat.le_of_ble_eq_true rfl) dX1_goes_1 ⟨Nat.le_of_ble_eq_true rfl, Nat.le_of_ble_eq_true rfl⟩ ?_
  refine lv_if_ne (tgt := 9) hx hb dX1_goes_4 (by decide) (fun c4 => ?_) (fun c4 => ?_)
  · have b4 := bI_nz c4
    refine lv_aload_n hx hb dX1_goes_9 rfl (lv_at hl 0 rfl) ?_
    refine lv_iload_n hx hb dX1_goes_10 rfl (lv_at hl 1 rfl) ?_
    refine rd_V (As := [.int g]) (rest := []) (ci := 1) (qc := (RX1, TX1, 8)) S (c_X1_memberTill l dC dI h a1 a2 a3 a4 a5 a6 cA me tm hA rA lT jA pT cF g b4) gX1_goes_X1_memberTill rfl ⟨rfl, rfl⟩ hd_X1_memberTill ⟨Nat.le_of_ble_eq_true rfl, Nat.le_of_ble_eq_true rfl⟩ hK hP rfl rfl rfl hl.1 rfl (Nat.le_of_ble_eq_true rfl) dX1_goes_11 ⟨Nat.le_of_ble_eq_true rfl, Nat.le_of_ble_eq_true rfl⟩ ?_
    refine lv_if_le (tgt := 28) hx hb dX1_goes_14 (by decide) (fun c14 => ?_) (fun c14 => ?_)
    · refine lv_iconst (v := 0) hx hb dX1_goes_28 (by decide) ?_
      refine lv_top (x' := bI (mOwn me tm hA rA lT g)) (by simp [mOwn, bI, b4, c14]) ?_
      refine lv_istore_n (lv' := [(2, .int (bI (mOwn me tm hA rA lT g))), (0, .ref h), (1, .int g)]) hx hb dX1_goes_29 rfl hl (by decide) rfl (fun ls hl => ?_)
      refine lv_iconst (v := 0) hx hb dX1_goes_30 (by decide) ?_
      refine lv_istore_n (lv' := [(3, .int ((0 : Int32))), (2, .int (bI (mOwn me tm hA rA lT g))), (0, .ref h), (1, .int g)]) hx hb dX1_goes_31 rfl hl (by decide) rfl (fun ls hl => ?_)
      refine lv_iconst (v := 0) hx hb dX1_goes_32 (by decide) ?_
      refine lv_istore (lv' := [(4, .int ((0 : Int32))), (3, .int ((0 : Int32))), (2, .int (bI (mOwn me tm hA rA lT g))), (0, .ref h), (1, .int g)]) hx hb dX1_goes_33 hl (by decide) rfl (fun ls hl => ?_)
      refine lp_X1_goes_35 l dC dI h a1 a2 a3 a4 a5 a6 cA me tm hA rA lT jA pT cF g (mOwn me tm hA rA lT g) b4 S hK hP ⟨Nat.le_of_ble_eq_true rfl, Nat.le_of_ble_eq_true rfl⟩ (fun ls hl => ?_) 16 0 rfl ls (lv_sub hl [3, 4, 2, 1, 0] rfl)
      refine lv_iload_n hx hb dX1_goes_100 rfl (lv_at hl 3 rfl) ?_
      have er : bitsI (mGoq (mOwn me tm hA rA lT g) tm jA pT cF g) 16 = mGoes me tm hA rA lT jA pT cF g := by simp [mGoes, b4, c14]
      exact W.iret (v := bitsI (mGoq (mOwn me tm hA rA lT g) tm jA pT cF g) 16) hx hb hr (fun t ht hW => ⟨congrArg (fun z => Outcome.returned (some (Value.int z))) er, ht⟩) (fun q h => absurd h List.not_mem_nil) dX1_goes_101
    · refine lv_aload_n hx hb dX1_goes_17 rfl (lv_at hl 0 rfl) ?_
      refine rd_V (As := []) (rest := []) (ci := 1) (qc := (RX1, TX1, 8)) S (c_X1_isFirst l dC dI h a1 a2 a3 a4 a5 a6 cA me tm hA rA lT jA pT cF) gX1_goes_X1_isFirst rfl ⟨rfl, rfl⟩ hd_X1_isFirst ⟨Nat.le_of_ble_eq_true rfl, Nat.le_of_ble_eq_true rfl⟩ hK hP rfl rfl rfl hl.1 rfl (Nat.le_of_ble_eq_true rfl) dX1_goes_18 ⟨Nat.le_of_ble_eq_true rfl, Nat.le_of_ble_eq_true rfl⟩ ?_
      refine lv_if_eq (tgt := 28) hx hb dX1_goes_21 (by decide) (fun c21 => ?_) (fun c21 => ?_)
      · have b21 := bI_z c21
        refine lv_iconst (v := 0) hx hb dX1_goes_28 (by decide) ?_
        refine lv_top (x' := bI (mOwn me tm hA rA lT g)) (by simp [mOwn, bI, b4, c14, b21]) ?_
        refine lv_istore_n (lv' := [(2, .int (bI (mOwn me tm hA rA lT g))), (0, .ref h), (1, .int g)]) hx hb dX1_goes_29 rfl hl (by decide) rfl (fun ls hl => ?_)
        refine lv_iconst (v := 0) hx hb dX1_goes_30 (by decide) ?_
        refine lv_istore_n (lv' := [(3, .int ((0 : Int32))), (2, .int (bI (mOwn me tm hA rA lT g))), (0, .ref h), (1, .int g)]) hx hb dX1_goes_31 rfl hl (by decide) rfl (fun ls hl => ?_)
        refine lv_iconst (v := 0) hx hb dX1_goes_32 (by decide) ?_
        refine lv_istore (lv' := [(4, .int ((0 : Int32))), (3, .int ((0 : Int32))), (2, .int (bI (mOwn me tm hA rA lT g))), (0, .ref h), (1, .int g)]) hx hb dX1_goes_33 hl (by decide) rfl (fun ls hl => ?_)
        refine lp_X1_goes_35 l dC dI h a1 a2 a3 a4 a5 a6 cA me tm hA rA lT jA pT cF g (mOwn me tm hA rA lT g) b4 S hK hP ⟨Nat.le_of_ble_eq_true rfl, Nat.le_of_ble_eq_true rfl⟩ (fun ls hl => ?_) 16 0 rfl ls (lv_sub hl [3, 4, 2, 1, 0] rfl)
        refine lv_iload_n hx hb dX1_goes_100 rfl (lv_at hl 3 rfl) ?_
        have er : bitsI (mGoq (mOwn me tm hA rA lT g) tm jA pT cF g) 16 = mGoes me tm hA rA lT jA pT cF g := by simp [mGoes, b4, c14, b21]
        exact W.iret (v := bitsI (mGoq (mOwn me tm hA rA lT g) tm jA pT cF g) 16) hx hb hr (fun t ht hW => ⟨congrArg (fun z => Outcome.returned (some (Value.int z))) er, ht⟩) (fun q h => absurd h List.not_mem_nil) dX1_goes_101
      · have b21 := bI_nz c21
        refine lv_iconst (v := 1) hx hb dX1_goes_24 (by decide) ?_
        refine lv_goto (tgt := 29) hx hb dX1_goes_25 (by decide) ?_
        refine lv_top (x' := bI (mOwn me tm hA rA lT g)) (by simp [mOwn, bI, b4, c14, b21]) ?_
        refine lv_istore_n (lv' := [(2, .int (bI (mOwn me tm hA rA lT g))), (0, .ref h), (1, .int g)]) hx hb dX1_goes_29 rfl hl (by decide) rfl (fun ls hl => ?_)
        refine lv_iconst (v := 0) hx hb dX1_goes_30 (by decide) ?_
        refine lv_istore_n (lv' := [(3, .int ((0 : Int32))), (2, .int (bI (mOwn me tm hA rA lT g))), (0, .ref h), (1, .int g)]) hx hb dX1_goes_31 rfl hl (by decide) rfl (fun ls hl => ?_)
        refine lv_iconst (v := 0) hx hb dX1_goes_32 (by decide) ?_
        refine lv_istore (lv' := [(4, .int ((0 : Int32))), (3, .int ((0 : Int32))), (2, .int (bI (mOwn me tm hA rA lT g))), (0, .ref h), (1, .int g)]) hx hb dX1_goes_33 hl (by decide) rfl (fun ls hl => ?_)
        refine lp_X1_goes_35 l dC dI h a1 a2 a3 a4 a5 a6 cA me tm hA rA lT jA pT cF g (mOwn me tm hA rA lT g) b4 S hK hP ⟨Nat.le_of_ble_eq_true rfl, Nat.le_of_ble_eq_true rfl⟩ (fun ls hl => ?_) 16 0 rfl ls (lv_sub hl [3, 4, 2, 1, 0] rfl)
        refine lv_iload_n hx hb dX1_goes_100 rfl (lv_at hl 3 rfl) ?_
        have er : bitsI (mGoq (mOwn me tm hA rA lT g) tm jA pT cF g) 16 = mGoes me tm hA rA lT jA pT cF g := by simp [mGoes, b4, c14, b21]
        exact W.iret (v := bitsI (mGoq (mOwn me tm hA rA lT g) tm jA pT cF g) 16) hx hb hr (fun t ht hW => ⟨congrArg (fun z => Outcome.returned (some (Value.int z))) er, ht⟩) (fun q h => absurd h List.not_mem_nil) dX1_goes_101
  · have b4 := bI_z c4
    refine lv_iconst (v := -1) hx hb dX1_goes_7 (by decide) ?_
    have er : (-1 : Int32) = mGoes me tm hA rA lT jA pT cF g := by simp [mGoes, b4]
    exact W.iret (v := (-1 : Int32)) hx hb hr (fun t ht hW => ⟨congrArg (fun z => Outcome.returned (some (Value.int z))) er, ht⟩) (fun q h => absurd h List.not_mem_nil) dX1_goes_8
theorem hd_X1_goes : yX1_goes.cls = RX1 ∧ yX1_goes.cls ≠ "java/lang/invoke/MethodHandle" ∧ yX1_goes.cls ≠ "java/lang/invoke/VarHandle" ∧ (parseMethodDescriptor yX1_goes.desc).map (fun d => d.parameters.length) = some 1 := by decide +kernel

theorem iwsX1_going : ∀ w ∈ u_ws RX1 TX1 8, w ∈ wsX1_going := fun _ h => List.mem_cons_of_mem _ (List.mem_append_right _ h)
set_option maxHeartbeats 4000000 in
set_option maxRecDepth 100000 in
theorem lp_X1_going_4 {p : Program} {e : Env} {s : State} {m : MethodId} {args : Array Value} {below : List Frame} {meth : Method} {c : Code} {cells slots : Nat} {Q : State → Prop} {H : Heap} {locs : List Loc} (l : Launch) (dC : Nat → ClassId) (dI : Nat → Nat → Nat) (h a1 a2 a3 a4 a5 a6 : Nat) (cA : ClassId) (me tm : Int32) (hA rA lT jA pT cF : Nat → Int32) (S : CallFix p m c cX1_going 3 s args wsX1_going RX1) (hK : va_K (dC, dI) vwCl [(cA, .int)] s) (hP : va_P (dC, dI) vwCl (wM h a1 a2 a3 a4 a5 a6 cA me tm hA rA lT jA pT cF) H) (hcs : cells + 0 ≤ 0 ∧ slots + 0 ≤ 0) (k : ∀ (ls : Array Slot), lv_has ls 3 [(0, .ref h), (1, .int (bitsI (mGrq me tm hA rA lT jA pT cF) 8)), (2, .int (nI 8))] → W p l e ({ frames := 3, cells := 0, slots := 0, locals := 67 }) s m args below meth c H locs cells slots Q (F0 m 30 ls [])) : ∀ (n i : Nat), i + n = 8 → ∀ (ls : Array Slot), lv_has ls 3 [(0, .ref h), (1, .int (bitsI (mGrq me tm hA rA lT jA pT cF) i)), (2, .int (nI i))] → W p l e ({ frames := 3, cells := 0, slots := 0, locals := 67 }) s m args below meth c H locs cells slots Q (F0 m 4 ls []) := by
  obtain ⟨hx, hb, hml, hown, hts⟩ := id S
  intro n
  induction n with
  | zero =>
    intro i hi ls hl
    obtain rfl : i = 8 := by omega
    refine lv_iload_n hx hb dX1_going_4 rfl (lv_at hl 2 rfl) ?_
    refine lv_bipush (v := 8) hx hb dX1_going_5 (by decide) ?_
    refine lv_icmp_ge (tgt := 30) hx hb dX1_going_7 (by decide) (fun c7 => ?_) (fun c7 => ?_)
    · exact k ls (lv_sub hl [0, 1, 2] rfl)
    · exact absurd c7 (by decide)
  | succ n ih =>
    intro i hi ls hl
    have hlt : i < 8 := by omega
    have hcl : (nI i).toNatClampNeg = i := nI_clamp (by omega)
    refine lv_iload_n hx hb dX1_going_4 rfl (lv_at hl 2 rfl) ?_
    refine lv_bipush (v := 8) hx hb dX1_going_5 (by decide) ?_
    refine lv_icmp_ge (tgt := 30) hx hb dX1_going_7 (by decide) (fun c7 => ?_) (fun c7 => ?_)
    · exact absurd c7 (nI_ge hlt (by decide))
    · refine lv_aload_n hx hb dX1_going_10 rfl (lv_at hl 0 rfl) ?_
      refine lv_iload_n hx hb dX1_going_11 rfl (lv_at hl 2 rfl) ?_
      refine rd_V (As := [.int (nI i)]) (rest := []) (ci := 1) (qc := (RX1, TX1, 8)) S (c_X1_goes l dC dI h a1 a2 a3 a4 a5 a6 cA me tm hA rA lT jA pT cF (nI i)) gX1_going_X1_goes rfl ⟨rfl, rfl⟩ hd_X1_goes ⟨Nat.le_of_ble_eq_true rfl, Nat.le_of_ble_eq_true rfl⟩ hK hP rfl rfl rfl hl.1 rfl (Nat.le_of_ble_eq_true rfl) dX1_going_12 hcs ?_
      refine lv_if_eq (tgt := 24) hx hb dX1_going_15 (by decide) (fun c15 => ?_) (fun c15 => ?_)
      · refine lv_iinc (v := nI (i + 1)) (lv' := [(2, .int (nI (i + 1))), (0, .ref h), (1, .int (bitsI (mGrq me tm hA rA lT jA pT cF) i))]) hx hb dX1_going_24 hl (k := 2) rfl (nI_1 _) (by decide) rfl (fun ls hl => ?_)
        refine lv_goto (tgt := 4) hx hb dX1_going_27 (by decide) ?_
        exact ih (i + 1) (by omega) ls (by rw [bitsI_f (q := mGrq me tm hA rA lT jA pT cF) (k := i) (by simp [mGrq, c15])]; exact lv_sub hl [1, 2, 0] rfl)
      · refine lv_iload_n hx hb dX1_going_18 rfl (lv_at hl 1 rfl) ?_
        refine lv_iconst (v := 1) hx hb dX1_going_19 (by decide) ?_
        refine lv_iload_n hx hb dX1_going_20 rfl (lv_at hl 2 rfl) ?_
        refine lv_ishl hx hb dX1_going_21 ?_
        refine lv_ior hx hb dX1_going_22 ?_
        refine lv_istore_n (lv' := [(1, .int ((bitsI (mGrq me tm hA rA lT jA pT cF) i) ||| (((1 : Int32)) <<< ((nI i) &&& 31)))), (0, .ref h), (2, .int (nI i))]) hx hb dX1_going_23 rfl hl (by decide) rfl (fun ls hl => ?_)
        refine lv_iinc (v := nI (i + 1)) (lv' := [(2, .int (nI (i + 1))), (1, .int ((bitsI (mGrq me tm hA rA lT jA pT cF) i) ||| (((1 : Int32)) <<< ((nI i) &&& 31)))), (0, .ref h)]) hx hb dX1_going_24 hl (k := 2) rfl (nI_1 _) (by decide) rfl (fun ls hl => ?_)
        refine lv_goto (tgt := 4) hx hb dX1_going_27 (by decide) ?_
        exact ih (i + 1) (by omega) ls (by rw [bitsI_t (q := mGrq me tm hA rA lT jA pT cF) (k := i) (by simp [mGrq, c15])]; exact lv_sub hl [2, 1, 0] rfl)
set_option maxHeartbeats 4000000 in
set_option maxRecDepth 100000 in
theorem c_X1_going (l : Launch) (dC : Nat → ClassId) (dI : Nat → Nat → Nat) (h a1 a2 a3 a4 a5 a6 : Nat) (cA : ClassId) (me tm : Int32) (hA rA lT jA pT cF : Nat → Int32) : Met l yX1_going wsX1_going ({ frames := 3, cells := 0, slots := 0, locals := 67 }) (PR [.ref h] dC dI cA (wM h a1 a2 a3 a4 a5 a6 cA me tm hA rA lT jA pT cF)) (QcRead (mGr me tm hA rA lT jA pT cF)) 0 0 (fun _ => False) := by
  refine Met.ofW (cc := cX1_going) (maxL := 3) (ret := some .int) (by decide) rfl ?_
  intro p e s m args below meth c s₁ B hml hv
  obtain ⟨rfl, hP, hK⟩ := hv
  have hx := B.exec
  have hb := B.bytes
  have hr := B.returns
  have hts := atoms_spec (ws := wsX1_going) B.pre
  have hown : s.vm.findClass RX1 = some m.cls := findClass_of_methodNamed B.named
  have hlocks := B.notSynchronized
  have S : CallFix p m c cX1_going 3 s ([.ref h] : List Value).toArray wsX1_going RX1 := ⟨hx, hb, hml, hown, hts⟩
  have hl := lv_entry ([.ref h]) (n := 3) (Nat.le_of_ble_eq_true rfl)
  rw [lg_entry_eq]
  generalize (lg_sl ([.ref h]) ++ List.replicate (3 - (lg_sl ([.ref h])).length) Slot.unset).toArray = ls at hl ⊢
  have hl : lv_has ls 3 [(0, .ref h)] := hl
  refine lv_iconst (v := 0) hx hb dX1_going_0 (by decide) ?_
  refine lv_istore_n (lv' := [(1, .int ((0 : Int32))), (0, .ref h)]) hx hb dX1_going_1 rfl hl (by decide) rfl (fun ls hl => ?_)
  refine lv_iconst (v := 0) hx hb dX1_going_2 (by decide) ?_
  refine lv_istore_n (lv' := [(2, .int ((0 : Int32))), (1, .int ((0 : Int32))), (0, .ref h)]) hx hb dX1_going_3 rfl hl (by decide) rfl (fun ls hl => ?_)
  refine lp_X1_going_4 l dC dI h a1 a2 a3 a4 a5 a6 cA me tm hA rA lT jA pT cF S hK hP ⟨Nat.le_of_ble_eq_true rfl, Nat.le_of_ble_eq_true rfl⟩ (fun ls hl => ?_) 8 0 rfl ls (lv_sub hl [2, 1, 0] rfl)
  refine lv_iload_n hx hb dX1_going_30 rfl (lv_at hl 1 rfl) ?_
  exact W.iret (v := bitsI (mGrq me tm hA rA lT jA pT cF) 8) hx hb hr (fun t ht hW => ⟨rfl, ht⟩) (fun q h => absurd h List.not_mem_nil) dX1_going_31
theorem hd_X1_going : yX1_going.cls = RX1 ∧ yX1_going.cls ≠ "java/lang/invoke/MethodHandle" ∧ yX1_going.cls ≠ "java/lang/invoke/VarHandle" ∧ (parseMethodDescriptor yX1_going.desc).map (fun d => d.parameters.length) = some 0 := by decide +kernel

theorem iwsX1_branches : ∀ w ∈ u_ws RX1 TX1 8, w ∈ wsX1_branches := fun _ h => List.mem_cons_of_mem _ (List.mem_append_right _ h)
set_option maxHeartbeats 4000000 in
set_option maxRecDepth 100000 in
theorem lp_X1_branches_4 {p : Program} {e : Env} {s : State} {m : MethodId} {args : Array Value} {below : List Frame} {meth : Method} {c : Code} {cells slots : Nat} {Q : State → Prop} {H : Heap} {locs : List Loc} (l : Launch) (dC : Nat → ClassId) (dI : Nat → Nat → Nat) (h a1 a2 a3 a4 a5 a6 : Nat) (cA : ClassId) (me tm : Int32) (hA rA lT jA pT cF : Nat → Int32) (S : CallFix p m c cX1_branches 3 s args wsX1_branches RX1) (hK : va_K (dC, dI) vwCl [(cA, .int)] s) (hP : va_P (dC, dI) vwCl (wM h a1 a2 a3 a4 a5 a6 cA me tm hA rA lT jA pT cF) H) (hcs : cells + 0 ≤ 0 ∧ slots + 0 ≤ 0) (k : ∀ (ls : Array Slot), lv_has ls 3 [(0, .ref h), (1, .int (cntI (mCnq tm jA pT) 136)), (2, .int (nI 136))] → W p l e ({ frames := 1, cells := 0, slots := 0, locals := 24 }) s m args below meth c H locs cells slots Q (F0 m 42 ls [])) : ∀ (n i : Nat), i + n = 136 → ∀ (ls : Array Slot), lv_has ls 3 [(0, .ref h), (1, .int (cntI (mCnq tm jA pT) i)), (2, .int (nI i))] → W p l e ({ frames := 1, cells := 0, slots := 0, locals := 24 }) s m args below meth c H locs cells slots Q (F0 m 4 ls []) := by
  obtain ⟨hx, hb, hml, hown, hts⟩ := id S
  intro n
  induction n with
  | zero =>
    intro i hi ls hl
    obtain rfl : i = 136 := by omega
    refine lv_iload_n hx hb dX1_branches_4 rfl (lv_at hl 2 rfl) ?_
    refine lv_sipush (v := 136) hx hb dX1_branches_5 (by decide) ?_
    refine lv_icmp_ge (tgt := 42) hx hb dX1_branches_8 (by decide) (fun c8 => ?_) (fun c8 => ?_)
    · exact k ls (lv_sub hl [0, 1, 2] rfl)
    · exact absurd c8 (by decide)
  | succ n ih =>
    intro i hi ls hl
    have hlt : i < 136 := by omega
    have hcl : (nI i).toNatClampNeg = i := nI_clamp (by omega)
    refine lv_iload_n hx hb dX1_branches_4 rfl (lv_at hl 2 rfl) ?_
    refine lv_sipush (v := 136) hx hb dX1_branches_5 (by decide) ?_
    refine lv_icmp_ge (tgt := 42) hx hb dX1_branches_8 (by decide) (fun c8 => ?_) (fun c8 => ?_)
    · exact absurd c8 (nI_ge hlt (by decide))
    · refine lv_iload_n hx hb dX1_branches_11 rfl (lv_at hl 1 rfl) ?_
      refine lv_aload_n hx hb dX1_branches_12 rfl (lv_at hl 0 rfl) ?_
      refine lv_iload_n hx hb dX1_branches_13 rfl (lv_at hl 2 rfl) ?_
      refine lv_bipush (v := 17) hx hb dX1_branches_14 (by decide) ?_
      refine lv_idiv hx hb dX1_branches_16 (by decide) ?_
      refine lv_top (x' := mDv i) (rfl) ?_
      refine lv_iload_n hx hb dX1_branches_17 rfl (lv_at hl 2 rfl) ?_
      refine lv_bipush (v := 17) hx hb dX1_branches_18 (by decide) ?_
      refine lv_irem hx hb dX1_branches_20 (by decide) ?_
      refine lv_iconst (v := 1) hx hb dX1_branches_21 (by decide) ?_
      refine lv_isub hx hb dX1_branches_22 ?_
      refine lv_top (x' := mMd i) (rfl) ?_
      refine rd_V (As := [.int (mDv i), .int (mMd i)]) (rest := [.int (cntI (mCnq tm jA pT) i)]) (ci := 1) (qc := (RX1, TX1, 8)) S (c_X1_till l dC dI h a1 a2 a3 a4 a5 a6 cA me tm hA rA lT jA pT cF (mDv i) (mMd i) (mBr_dm hlt)) gX1_branches_X1_till rfl ⟨rfl, rfl⟩ hd_X1_till ⟨Nat.le_of_ble_eq_true rfl, Nat.le_of_ble_eq_true rfl⟩ hK hP rfl rfl rfl hl.1 rfl (Nat.le_of_ble_eq_true rfl) dX1_branches_23 hcs ?_
      refine lv_if_le (tgt := 33) hx hb dX1_branches_26 (by decide) (fun c26 => ?_) (fun c26 => ?_)
      · refine lv_iconst (v := 0) hx hb dX1_branches_33 (by decide) ?_
        refine lv_iadd hx hb dX1_branches_34 ?_
        refine lv_top (x' := cntI (mCnq tm jA pT) (i + 1)) (by rw [cntI_f (q := mCnq tm jA pT) (k := i) (by simp [mCnq, c26])]; exact Int32.add_zero _) ?_
        refine lv_istore_n (lv' := [(1, .int (cntI (mCnq tm jA pT) (i + 1))), (0, .ref h), (2, .int (nI i))]) hx hb dX1_branches_35 rfl hl (by decide) rfl (fun ls hl => ?_)
        refine lv_iinc (v := nI (i + 1)) (lv' := [(2, .int (nI (i + 1))), (1, .int (cntI (mCnq tm jA pT) (i + 1))), (0, .ref h)]) hx hb dX1_branches_36 hl (k := 2) rfl (nI_1 _) (by decide) rfl (fun ls hl => ?_)
        refine lv_goto (tgt := 4) hx hb dX1_branches_39 (by decide) ?_
        exact ih (i + 1) (by omega) ls (lv_sub hl [2, 1, 0] rfl)
      · refine lv_iconst (v := 1) hx hb dX1_branches_29 (by decide) ?_
        refine lv_goto (tgt := 34) hx hb dX1_branches_30 (by decide) ?_
        refine lv_iadd hx hb dX1_branches_34 ?_
        refine lv_top (x' := cntI (mCnq tm jA pT) (i + 1)) ((cntI_t (q := mCnq tm jA pT) (k := i) (by simp [mCnq, c26])).symm) ?_
        refine lv_istore_n (lv' := [(1, .int (cntI (mCnq tm jA pT) (i + 1))), (0, .ref h), (2, .int (nI i))]) hx hb dX1_branches_35 rfl hl (by decide) rfl (fun ls hl => ?_)
        refine lv_iinc (v := nI (i + 1)) (lv' := [(2, .int (nI (i + 1))), (1, .int (cntI (mCnq tm jA pT) (i + 1))), (0, .ref h)]) hx hb dX1_branches_36 hl (k := 2) rfl (nI_1 _) (by decide) rfl (fun ls hl => ?_)
        refine lv_goto (tgt := 4) hx hb dX1_branches_39 (by decide) ?_
        exact ih (i + 1) (by omega) ls (lv_sub hl [2, 1, 0] rfl)
set_option maxHeartbeats 4000000 in
set_option maxRecDepth 100000 in
theorem c_X1_branches (l : Launch) (dC : Nat → ClassId) (dI : Nat → Nat → Nat) (h a1 a2 a3 a4 a5 a6 : Nat) (cA : ClassId) (me tm : Int32) (hA rA lT jA pT cF : Nat → Int32) : Met l yX1_branches wsX1_branches ({ frames := 1, cells := 0, slots := 0, locals := 24 }) (PR [.ref h] dC dI cA (wM h a1 a2 a3 a4 a5 a6 cA me tm hA rA lT jA pT cF)) (QcRead (mCnt tm jA pT)) 0 0 (fun _ => False) := by
  refine Met.ofW (cc := cX1_branches) (maxL := 3) (ret := some .int) (by decide) rfl ?_
  intro p e s m args below meth c s₁ B hml hv
  obtain ⟨rfl, hP, hK⟩ := hv
  have hx := B.exec
  have hb := B.bytes
  have hr := B.returns
  have hts := atoms_spec (ws := wsX1_branches) B.pre
  have hown : s.vm.findClass RX1 = some m.cls := findClass_of_methodNamed B.named
  have hlocks := B.notSynchronized
  have S : CallFix p m c cX1_branches 3 s ([.ref h] : List Value).toArray wsX1_branches RX1 := ⟨hx, hb, hml, hown, hts⟩
  have hl := lv_entry ([.ref h]) (n := 3) (Nat.le_of_ble_eq_true rfl)
  rw [lg_entry_eq]
  generalize (lg_sl ([.ref h]) ++ List.replicate (3 - (lg_sl ([.ref h])).length) Slot.unset).toArray = ls at hl ⊢
  have hl : lv_has ls 3 [(0, .ref h)] := hl
  refine lv_iconst (v := 0) hx hb dX1_branches_0 (by decide) ?_
  refine lv_istore_n (lv' := [(1, .int ((0 : Int32))), (0, .ref h)]) hx hb dX1_branches_1 rfl hl (by decide) rfl (fun ls hl => ?_)
  refine lv_iconst (v := 0) hx hb dX1_branches_2 (by decide) ?_
  refine lv_istore_n (lv' := [(2, .int ((0 : Int32))), (1, .int ((0 : Int32))), (0, .ref h)]) hx hb dX1_branches_3 rfl hl (by decide) rfl (fun ls hl => ?_)
  refine lp_X1_branches_4 l dC dI h a1 a2 a3 a4 a5 a6 cA me tm hA rA lT jA pT cF S hK hP ⟨Nat.le_of_ble_eq_true rfl, Nat.le_of_ble_eq_true rfl⟩ (fun ls hl => ?_) 136 0 rfl ls (lv_sub hl [2, 1, 0] rfl)
  refine lv_iload_n hx hb dX1_branches_42 rfl (lv_at hl 1 rfl) ?_
  exact W.iret (v := cntI (mCnq tm jA pT) 136) hx hb hr (fun t ht hW => ⟨rfl, ht⟩) (fun q h => absurd h List.not_mem_nil) dX1_branches_43
theorem hd_X1_branches : yX1_branches.cls = RX1 ∧ yX1_branches.cls ≠ "java/lang/invoke/MethodHandle" ∧ yX1_branches.cls ≠ "java/lang/invoke/VarHandle" ∧ (parseMethodDescriptor yX1_branches.desc).map (fun d => d.parameters.length) = some 0 := by decide +kernel

theorem iwsX1_look : ∀ w ∈ u_ws RX1 TX1 8, w ∈ wsX1_look := fun _ h => List.mem_cons_of_mem _ (List.mem_append_right _ h)
set_option maxHeartbeats 4000000 in
set_option maxRecDepth 100000 in
theorem c_X1_look (l : Launch) (dC : Nat → ClassId) (dI : Nat → Nat → Nat) (h a1 a2 a3 a4 a5 a6 : Nat) (cA : ClassId) (me tm : Int32) (hA rA lT jA pT cF : Nat → Int32) (w : Int32) (hme : ¬ ((1 : Int32) <<< (me &&& 31)) = 0) : Met l yX1_look wsX1_look ({ frames := 4, cells := 0, slots := 0, locals := 89 }) (PR [.ref h, .int w] dC dI cA (wM h a1 a2 a3 a4 a5 a6 cA me tm hA rA lT jA pT cF)) (QcRead (mLook me tm hA rA lT jA pT cF w)) 0 0 (fun _ => False) := by
  refine Met.ofW (cc := cX1_look) (maxL := 2) (ret := some .int) (by decide) rfl ?_
  intro p e s m args below meth c s₁ B hml hv
  obtain ⟨rfl, hP, hK⟩ := hv
  have hx := B.exec
  have hb := B.bytes
  have hr := B.returns
  have hts := atoms_spec (ws := wsX1_look) B.pre
  have hown : s.vm.findClass RX1 = some m.cls := findClass_of_methodNamed B.named
  have hlocks := B.notSynchronized
  have S : CallFix p m c cX1_look 2 s ([.ref h, .int w] : List Value).toArray wsX1_look RX1 := ⟨hx, hb, hml, hown, hts⟩
  have hl := lv_entry ([.ref h, .int w]) (n := 2) (Nat.le_of_ble_eq_true rfl)
  rw [lg_entry_eq]
  generalize (lg_sl ([.ref h, .int w]) ++ List.replicate (2 - (lg_sl ([.ref h, .int w])).length) Slot.unset).toArray = ls at hl ⊢
  have hl : lv_has ls 2 [(0, .ref h), (1, .int w)] := hl
  refine lv_iload_n hx hb dX1_look_0 rfl (lv_at hl 1 rfl) ?_
  rcases Decidable.em (w = 0) with hw0 | hw0
  · refine lv_tableIn (off := 47) (tgt := 48) hx hb dX1_look_1 (by rw [hw0]; decide) (by rw [hw0]; decide) (by rw [hw0]; rfl) (by decide) ?_
    refine lv_aload_n hx hb dX1_look_48 rfl (lv_at hl 0 rfl) ?_
    refine va_get (D := (dC, dI)) (ci := 1) (v := .int tm) (C := RX1) (T := TX1) (N := 8) hx hb hts iwsX1_look hown hK hP 0 rfl rfl 1 (by decide) (hts (.fieldLink RX1 39 "BranchTimesModel" "time" "I") (by decide +kernel)) (fun _ h9 => h9) rfl dX1_look_49 ?_
    have er : tm = mLook me tm hA rA lT jA pT cF w := by unfold mLook; rw [if_pos hw0]
    exact W.iret (v := tm) hx hb hr (fun t ht hW => ⟨congrArg (fun z => Outcome.returned (some (Value.int z))) er, ht⟩) (fun q h => absurd h List.not_mem_nil) dX1_look_52
  rcases Decidable.em (w = 1) with hw1 | hw1
  · refine lv_tableIn (off := 52) (tgt := 53) hx hb dX1_look_1 (by rw [hw1]; decide) (by rw [hw1]; decide) (by rw [hw1]; rfl) (by decide) ?_
    refine lv_aload_n hx hb dX1_look_53 rfl (lv_at hl 0 rfl) ?_
    refine rd_V (As := []) (rest := []) (ci := 1) (qc := (RX1, TX1, 8)) S (c_X1_neighbours l dC dI h a1 a2 a3 a4 a5 a6 cA me tm hA rA lT jA pT cF) gX1_look_X1_neighbours rfl ⟨rfl, rfl⟩ hd_X1_neighbours ⟨Nat.le_of_ble_eq_true rfl, Nat.le_of_ble_eq_true rfl⟩ hK hP rfl rfl rfl hl.1 rfl (Nat.le_of_ble_eq_true rfl) dX1_look_54 ⟨Nat.le_of_ble_eq_true rfl, Nat.le_of_ble_eq_true rfl⟩ ?_
    have er : mNb tm hA = mLook me tm hA rA lT jA pT cF w := by unfold mLook; rw [if_neg (by rw [hw1]; decide), if_pos hw1]
    exact W.iret (v := mNb tm hA) hx hb hr (fun t ht hW => ⟨congrArg (fun z => Outcome.returned (some (Value.int z))) er, ht⟩) (fun q h => absurd h List.not_mem_nil) dX1_look_57
  rcases Decidable.em (w = 2) with hw2 | hw2
  · refine lv_tableIn (off := 57) (tgt := 58) hx hb dX1_look_1 (by rw [hw2]; decide) (by rw [hw2]; decide) (by rw [hw2]; rfl) (by decide) ?_
    refine lv_aload_n hx hb dX1_look_58 rfl (lv_at hl 0 rfl) ?_
    refine rd_V (As := []) (rest := []) (ci := 1) (qc := (RX1, TX1, 8)) S (c_X1_isFirst l dC dI h a1 a2 a3 a4 a5 a6 cA me tm hA rA lT jA pT cF) gX1_look_X1_isFirst rfl ⟨rfl, rfl⟩ hd_X1_isFirst ⟨Nat.le_of_ble_eq_true rfl, Nat.le_of_ble_eq_true rfl⟩ hK hP rfl rfl rfl hl.1 rfl (Nat.le_of_ble_eq_true rfl) dX1_look_59 ⟨Nat.le_of_ble_eq_true rfl, Nat.le_of_ble_eq_true rfl⟩ ?_
    refine lv_if_eq (tgt := 69) hx hb dX1_look_62 (by decide) (fun c62 => ?_) (fun c62 => ?_)
    · have b62 := bI_z c62
      refine lv_iconst (v := 0) hx hb dX1_look_69 (by decide) ?_
      have er : (0 : Int32) = mLook me tm hA rA lT jA pT cF w := by unfold mLook; rw [if_neg (by rw [hw2]; decide), if_neg (by rw [hw2]; decide), if_pos hw2]; exact bI_0 b62
      exact W.iret (v := (0 : Int32)) hx hb hr (fun t ht hW => ⟨congrArg (fun z => Outcome.returned (some (Value.int z))) er, ht⟩) (fun q h => absurd h List.not_mem_nil) dX1_look_70
    · have b62 := bI_nz c62
      refine lv_iconst (v := 1) hx hb dX1_look_65 (by decide) ?_
      refine lv_goto (tgt := 70) hx hb dX1_look_66 (by decide) ?_
      have er : (1 : Int32) = mLook me tm hA rA lT jA pT cF w := by unfold mLook; rw [if_neg (by rw [hw2]; decide), if_neg (by rw [hw2]; decide), if_pos hw2]; exact bI_1 b62
      exact W.iret (v := (1 : Int32)) hx hb hr (fun t ht hW => ⟨congrArg (fun z => Outcome.returned (some (Value.int z))) er, ht⟩) (fun q h => absurd h List.not_mem_nil) dX1_look_70
  rcases Decidable.em (w = 3) with hw3 | hw3
  · refine lv_tableIn (off := 70) (tgt := 71) hx hb dX1_look_1 (by rw [hw3]; decide) (by rw [hw3]; decide) (by rw [hw3]; rfl) (by decide) ?_
    refine lv_aload_n hx hb dX1_look_71 rfl (lv_at hl 0 rfl) ?_
    refine rd_V (As := []) (rest := []) (ci := 1) (qc := (RX1, TX1, 8)) S (c_X1_isAsking l dC dI h a1 a2 a3 a4 a5 a6 cA me tm hA rA lT jA pT cF hme) gX1_look_X1_isAsking rfl ⟨rfl, rfl⟩ hd_X1_isAsking ⟨Nat.le_of_ble_eq_true rfl, Nat.le_of_ble_eq_true rfl⟩ hK hP rfl rfl rfl hl.1 rfl (Nat.le_of_ble_eq_true rfl) dX1_look_72 ⟨Nat.le_of_ble_eq_true rfl, Nat.le_of_ble_eq_true rfl⟩ ?_
    refine lv_if_eq (tgt := 82) hx hb dX1_look_75 (by decide) (fun c75 => ?_) (fun c75 => ?_)
    · have b75 := bI_z c75
      refine lv_iconst (v := 0) hx hb dX1_look_82 (by decide) ?_
      have er : (0 : Int32) = mLook me tm hA rA lT jA pT cF w := by unfold mLook; rw [if_neg (by rw [hw3]; decide), if_neg (by rw [hw3]; decide), if_neg (by rw [hw3]; decide), if_pos hw3]; exact bI_0 b75
      exact W.iret (v := (0 : Int32)) hx hb hr (fun t ht hW => ⟨congrArg (fun z => Outcome.returned (some (Value.int z))) er, ht⟩) (fun q h => absurd h List.not_mem_nil) dX1_look_83
    · have b75 := bI_nz c75
      refine lv_iconst (v := 1) hx hb dX1_look_78 (by decide) ?_
      refine lv_goto (tgt := 83) hx hb dX1_look_79 (by decide) ?_
      have er : (1 : Int32) = mLook me tm hA rA lT jA pT cF w := by unfold mLook; rw [if_neg (by rw [hw3]; decide), if_neg (by rw [hw3]; decide), if_neg (by rw [hw3]; decide), if_pos hw3]; exact bI_1 b75
      exact W.iret (v := (1 : Int32)) hx hb hr (fun t ht hW => ⟨congrArg (fun z => Outcome.returned (some (Value.int z))) er, ht⟩) (fun q h => absurd h List.not_mem_nil) dX1_look_83
  rcases Decidable.em (w = 4) with hw4 | hw4
  · refine lv_tableIn (off := 83) (tgt := 84) hx hb dX1_look_1 (by rw [hw4]; decide) (by rw [hw4]; decide) (by rw [hw4]; rfl) (by decide) ?_
    refine lv_aload_n hx hb dX1_look_84 rfl (lv_at hl 0 rfl) ?_
    refine rd_V (As := []) (rest := []) (ci := 1) (qc := (RX1, TX1, 8)) S (c_X1_isCrowded l dC dI h a1 a2 a3 a4 a5 a6 cA me tm hA rA lT jA pT cF) gX1_look_X1_isCrowded rfl ⟨rfl, rfl⟩ hd_X1_isCrowded ⟨Nat.le_of_ble_eq_true rfl, Nat.le_of_ble_eq_true rfl⟩ hK hP rfl rfl rfl hl.1 rfl (Nat.le_of_ble_eq_true rfl) dX1_look_85 ⟨Nat.le_of_ble_eq_true rfl, Nat.le_of_ble_eq_true rfl⟩ ?_
    refine lv_if_eq (tgt := 95) hx hb dX1_look_88 (by decide) (fun c88 => ?_) (fun c88 => ?_)
    · have b88 := bI_z c88
      refine lv_iconst (v := 0) hx hb dX1_look_95 (by decide) ?_
      have er : (0 : Int32) = mLook me tm hA rA lT jA pT cF w := by unfold mLook; rw [if_neg (by rw [hw4]; decide), if_neg (by rw [hw4]; decide), if_neg (by rw [hw4]; decide), if_neg (by rw [hw4]; decide), if_pos hw4]; exact bI_0 b88
      exact W.iret (v := (0 : Int32)) hx hb hr (fun t ht hW => ⟨congrArg (fun z => Outcome.returned (some (Value.int z))) er, ht⟩) (fun q h => absurd h List.not_mem_nil) dX1_look_96
    · have b88 := bI_nz c88
      refine lv_iconst (v := 1) hx hb dX1_look_91 (by decide) ?_
      refine lv_goto (tgt := 96) hx hb dX1_look_92 (by decide) ?_
      have er : (1 : Int32) = mLook me tm hA rA lT jA pT cF w := by unfold mLook; rw [if_neg (by rw [hw4]; decide), if_neg (by rw [hw4]; decide), if_neg (by rw [hw4]; decide), if_neg (by rw [hw4]; decide), if_pos hw4]; exact bI_1 b88
      exact W.iret (v := (1 : Int32)) hx hb hr (fun t ht hW => ⟨congrArg (fun z => Outcome.returned (some (Value.int z))) er, ht⟩) (fun q h => absurd h List.not_mem_nil) dX1_look_96
  rcases Decidable.em (w = 5) with hw5 | hw5
  · refine lv_tableIn (off := 96) (tgt := 97) hx hb dX1_look_1 (by rw [hw5]; decide) (by rw [hw5]; decide) (by rw [hw5]; rfl) (by decide) ?_
    refine lv_aload_n hx hb dX1_look_97 rfl (lv_at hl 0 rfl) ?_
    refine va_get (D := (dC, dI)) (ci := 1) (v := .int me) (C := RX1) (T := TX1) (N := 8) hx hb hts iwsX1_look hown hK hP 0 rfl rfl 0 (by decide) (hts (.fieldLink RX1 28 "BranchTimesModel" "me" "I") (by decide +kernel)) (fun _ h9 => h9) rfl dX1_look_98 ?_
    have er : me = mLook me tm hA rA lT jA pT cF w := by unfold mLook; rw [if_neg (by rw [hw5]; decide), if_neg (by rw [hw5]; decide), if_neg (by rw [hw5]; decide), if_neg (by rw [hw5]; decide), if_neg (by rw [hw5]; decide), if_pos hw5]
    exact W.iret (v := me) hx hb hr (fun t ht hW => ⟨congrArg (fun z => Outcome.returned (some (Value.int z))) er, ht⟩) (fun q h => absurd h List.not_mem_nil) dX1_look_101
  rcases Decidable.em (w = 6) with hw6 | hw6
  · refine lv_tableIn (off := 101) (tgt := 102) hx hb dX1_look_1 (by rw [hw6]; decide) (by rw [hw6]; decide) (by rw [hw6]; rfl) (by decide) ?_
    refine lv_aload_n hx hb dX1_look_102 rfl (lv_at hl 0 rfl) ?_
    refine rd_V (As := []) (rest := []) (ci := 1) (qc := (RX1, TX1, 8)) S (c_X1_going l dC dI h a1 a2 a3 a4 a5 a6 cA me tm hA rA lT jA pT cF) gX1_look_X1_going rfl ⟨rfl, rfl⟩ hd_X1_going ⟨Nat.le_of_ble_eq_true rfl, Nat.le_of_ble_eq_true rfl⟩ hK hP rfl rfl rfl hl.1 rfl (Nat.le_of_ble_eq_true rfl) dX1_look_103 ⟨Nat.le_of_ble_eq_true rfl, Nat.le_of_ble_eq_true rfl⟩ ?_
    have er : mGr me tm hA rA lT jA pT cF = mLook me tm hA rA lT jA pT cF w := by unfold mLook; rw [if_neg (by rw [hw6]; decide), if_neg (by rw [hw6]; decide), if_neg (by rw [hw6]; decide), if_neg (by rw [hw6]; decide), if_neg (by rw [hw6]; decide), if_neg (by rw [hw6]; decide), if_pos hw6]
    exact W.iret (v := mGr me tm hA rA lT jA pT cF) hx hb hr (fun t ht hW => ⟨congrArg (fun z => Outcome.returned (some (Value.int z))) er, ht⟩) (fun q h => absurd h List.not_mem_nil) dX1_look_106
  rcases Decidable.em (w = 7) with hw7 | hw7
  · refine lv_tableIn (off := 106) (tgt := 107) hx hb dX1_look_1 (by rw [hw7]; decide) (by rw [hw7]; decide) (by rw [hw7]; rfl) (by decide) ?_
    refine lv_aload_n hx hb dX1_look_107 rfl (lv_at hl 0 rfl) ?_
    refine rd_V (As := []) (rest := []) (ci := 1) (qc := (RX1, TX1, 8)) S (c_X1_branches l dC dI h a1 a2 a3 a4 a5 a6 cA me tm hA rA lT jA pT cF) gX1_look_X1_branches rfl ⟨rfl, rfl⟩ hd_X1_branches ⟨Nat.le_of_ble_eq_true rfl, Nat.le_of_ble_eq_true rfl⟩ hK hP rfl rfl rfl hl.1 rfl (Nat.le_of_ble_eq_true rfl) dX1_look_108 ⟨Nat.le_of_ble_eq_true rfl, Nat.le_of_ble_eq_true rfl⟩ ?_
    have er : mCnt tm jA pT = mLook me tm hA rA lT jA pT cF w := by unfold mLook; rw [if_neg (by rw [hw7]; decide), if_neg (by rw [hw7]; decide), if_neg (by rw [hw7]; decide), if_neg (by rw [hw7]; decide), if_neg (by rw [hw7]; decide), if_neg (by rw [hw7]; decide), if_neg (by rw [hw7]; decide), if_pos hw7]
    exact W.iret (v := mCnt tm jA pT) hx hb hr (fun t ht hW => ⟨congrArg (fun z => Outcome.returned (some (Value.int z))) er, ht⟩) (fun q h => absurd h List.not_mem_nil) dX1_look_111
  refine lv_tableOut (tgt := 112) hx hb dX1_look_1 (tb_out8 hw0 hw1 hw2 hw3 hw4 hw5 hw6 hw7) (by decide) ?_
  refine lv_iconst (v := -1) hx hb dX1_look_112 (by decide) ?_
  have er : (-1 : Int32) = mLook me tm hA rA lT jA pT cF w := by unfold mLook; rw [if_neg hw0, if_neg hw1, if_neg hw2, if_neg hw3, if_neg hw4, if_neg hw5, if_neg hw6, if_neg hw7]
  exact W.iret (v := (-1 : Int32)) hx hb hr (fun t ht hW => ⟨congrArg (fun z => Outcome.returned (some (Value.int z))) er, ht⟩) (fun q h => absurd h List.not_mem_nil) dX1_look_113
theorem hd_X1_look : yX1_look.cls = RX1 ∧ yX1_look.cls ≠ "java/lang/invoke/MethodHandle" ∧ yX1_look.cls ≠ "java/lang/invoke/VarHandle" ∧ (parseMethodDescriptor yX1_look.desc).map (fun d => d.parameters.length) = some 1 := by decide +kernel
